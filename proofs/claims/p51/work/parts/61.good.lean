/-! 61: there is a good timetable if and only if one keeps all the spans -/
def dfN (S tau : Int → Int) (a b : Int) : Nat := ((tau b - tau a) % S 0).toNat
theorem dfN_int {S tau : Int → Int} (h : Ok S) {a b : Int} : ((dfN S tau a b : Nat) : Int) = (tau b - tau a) % S 0 ∧ dfN S tau a b < (S 0).toNat := by
  have hT := h.1
  have h1 := Int.emod_nonneg (tau b - tau a) (show S 0 ≠ 0 by omega)
  have h2 := Int.emod_lt_of_pos (tau b - tau a) (show 0 < S 0 by omega)
  unfold dfN
  omega
theorem dfN_tri {S tau : Int → Int} (h : Ok S) {a b c : Int} : dfN S tau c b = (dfN S tau a b + (S 0).toNat - dfN S tau a c) % (S 0).toNat := by
  have hT := h.1
  obtain ⟨T, eT⟩ : ∃ T : Nat, S 0 = (T : Int) := ⟨(S 0).toNat, by omega⟩
  obtain ⟨m1, m2⟩ := dfN_int h (tau := tau) (a := a) (b := b)
  obtain ⟨x1, x2⟩ := dfN_int h (tau := tau) (a := a) (b := c)
  obtain ⟨y1, y2⟩ := dfN_int h (tau := tau) (a := c) (b := b)
  rw [eT, Int.toNat_natCast] at *
  have q1 := Int.mul_ediv_add_emod (tau b - tau a) T
  have q2 := Int.mul_ediv_add_emod (tau c - tau a) T
  have q3 : tau b - tau c = ((dfN S tau a b + T - dfN S tau a c : Nat) : Int) + T * ((tau b - tau a) / T - (tau c - tau a) / T - 1) := by
    rw [Int.mul_sub, Int.mul_sub, Int.mul_one]
    omega
  rw [q3, Int.add_mul_emod_self_left] at y1
  have : ((dfN S tau c b : Nat) : Int) = (((dfN S tau a b + T - dfN S tau a c) % T : Nat) : Int) := y1
  omega
theorem dfN_self {S tau : Int → Int} {a : Int} : dfN S tau a a = 0 := by
  unfold dfN
  rw [Int.sub_self, Int.zero_emod]
  rfl
theorem dfN_rev {S tau : Int → Int} (h : Ok S) {a b : Int} : dfN S tau a b = ((S 0).toNat - dfN S tau b a) % (S 0).toNat := by
  have := dfN_tri h (tau := tau) (a := b) (b := b) (c := a)
  rw [dfN_self, Nat.zero_add] at this
  exact this
/-- the differences of tau are in the matrix -/
def CONS (S tau A : Int → Int) : Prop := ∀ a b, 0 ≤ a → a < S 1 → 0 ≤ b → b < S 1 → bit (A (6 * a + b)) (dfN S tau a b) = true
theorem CONS.ph {S tau A : Int → Int} (h : Ok S) {c : Int} (hc : 0 ≤ c ∧ c < S 1) (hA : CONS S tau A) : CONS S tau (phA (S 0).toNat (S 1) A c) := by
  have hE := h.2.1
  have hT := h.1
  intro a b a0 a1 b0 b1
  by_cases hd : dst (S 1) a b c
  · rw [phA_in (by omega) hd]
    unfold phV
    rw [bit_and, Bool.and_eq_true, sums_bit (by omega), Bool.and_eq_true, decide_eq_true_eq, sumsP_iff]
    exact ⟨hA a b a0 a1 b0 b1, (dfN_int h).2, dfN S tau a c, (dfN_int h).2, hA a c a0 a1 hc.1 hc.2, by rw [← dfN_tri h]; exact hA c b hc.1 hc.2 b0 b1⟩
  · rw [phA_out (by omega) hd]
    exact hA a b a0 a1 b0 b1
theorem CONS.phs {S tau A : Int → Int} (h : Ok S) (hA : CONS S tau A) : ∀ n : Nat, (n : Int) ≤ S 1 → CONS S tau (phN (S 0).toNat (S 1) A n)
  | 0, _ => hA
  | n + 1, hn => (CONS.phs h hA n (by omega)).ph h ⟨by omega, by omega⟩
theorem CONS.it {S tau A : Int → Int} (h : Ok S) (hA : CONS S tau A) : ∀ k : Nat, CONS S tau (itR (S 0).toNat (S 1).toNat A k)
  | 0 => hA
  | k + 1 => by
    have hE := h.2.1
    have g := (CONS.it h hA k).phs h (S 1).toNat (by omega)
    show CONS S tau (phN (S 0).toNat ((S 1).toNat : Int) (itR (S 0).toNat (S 1).toNat A k) (S 1).toNat)
    rw [Int.toNat_of_nonneg hE.1]
    exact g
/-- tau keeps all the spans -/
def KEPT (S tau : Int → Int) : Prop := ∀ k, 0 ≤ k → k < S 20 → kpBy S k (slBy S k (tau (toS S k) - tau (frS S k)))
theorem keptI_bit {S : Int → Int} (h : Ok S) {tau : Int → Int} {k a b : Int} : bit (keptI S k) (dfN S tau a b) = true ↔ kpBy S k (slBy S k (tau b - tau a)) := by
  have hT := h.1
  obtain ⟨d1, d2⟩ := dfN_int h (tau := tau) (a := a) (b := b)
  unfold keptI
  rw [setI_bit (by omega), Bool.and_eq_true, decide_eq_true_eq, decide_eq_true_eq, d1, slBy_mod.1]
  exact ⟨fun z => z.2, fun z => ⟨d2, z⟩⟩
theorem CONS.nar {S tau A : Int → Int} (h : Ok S) {f t x : Int} (hf : 0 ≤ f ∧ f < S 1) (ht : 0 ≤ t ∧ t < S 1) (hA : CONS S tau A) (hx : bit x (dfN S tau f t) = true) : CONS S tau (narA (S 0).toNat A f t x) := by
  have hE := h.2.1
  have hT := h.1
  have hv : bit (bAnd (A (6 * f + t)) x) (dfN S tau f t) = true := by
    rw [bit_and, Bool.and_eq_true]
    exact ⟨hA f t hf.1 hf.2 ht.1 ht.2, hx⟩
  intro a b a0 a1 b0 b1
  unfold narA
  by_cases z : 6 * a + b = 6 * t + f
  · obtain ⟨rfl, rfl⟩ : a = t ∧ b = f := by omega
    rw [upS_same, turn_bit (by omega), Bool.and_eq_true, decide_eq_true_eq, ← dfN_rev h]
    exact ⟨(dfN_int h).2, hv⟩
  · rw [upS_ne z]
    by_cases y : 6 * a + b = 6 * f + t
    · obtain ⟨rfl, rfl⟩ : a = f ∧ b = t := by omega
      rw [upS_same]
      exact hv
    · rw [upS_ne y]
      exact hA a b a0 a1 b0 b1
theorem CONS.lay {S tau : Int → Int} (h : Ok S) (hk : KEPT S tau) : CONS S tau (lyS S) := by
  have hE := h.2.1
  have hT := h.1
  have hN := h.2.2.1
  have key : ∀ n : Nat, (n : Int) ≤ S 20 → CONS S tau (layN S (fillA (fun _ => 0) (lay0 (S 0).toNat) 36) n) := by
    intro n
    induction n with
    | zero =>
      intro _ a b a0 a1 b0 b1
      show bit (fillA (fun _ => 0) (lay0 (S 0).toNat) 36 (6 * a + b)) _ = true
      unfold fillA
      rw [if_pos (by omega), lay0_at (by omega)]
      by_cases z : a = b
      · rw [if_pos z, z, dfN_self, bit_1]; rfl
      · rw [if_neg z, allI_bit (by omega)]
        exact decide_eq_true (dfN_int h).2
    | succ n ih =>
      intro hn
      have z := h.2.2.2.2 n (by omega) (by omega)
      unfold SpOk at z
      exact (ih (by omega)).nar h z.1 z.2.1 ((keptI_bit h).mpr (hk n (by omega) (by omega)))
  exact key _ (by omega)
theorem nar_sub {T : Nat} {E : Int} {A : Int → Int} {a b x : Int} (hT : T ≤ 24) (hs : SymA T E A) (ha : 0 ≤ a ∧ a < E) (hb : 0 ≤ b ∧ b < E) (hne : a ≠ b) : SubA (narA T A a b x) A := by
  intro j i hj
  unfold narA at hj
  by_cases z : j = 6 * b + a
  · rw [z, upS_same, turn_bit hT, Bool.and_eq_true, bit_and, Bool.and_eq_true] at hj
    rw [z, hs a b ha.1 ha.2 hb.1 hb.2 hne, turn_bit hT, Bool.and_eq_true]
    exact ⟨hj.1, hj.2.1⟩
  · rw [upS_ne z] at hj
    by_cases y : j = 6 * a + b
    · rw [y, upS_same, bit_and, Bool.and_eq_true] at hj
      rw [y]
      exact hj.1
    · rw [upS_ne y] at hj
      exact hj
theorem lay_kept {S A : Int → Int} (h : Ok S) (hA : MatOk (S 0).toNat A) (hs : SymA (S 0).toNat (S 1) A) : ∀ n : Nat, (n : Int) ≤ S 20 → ∀ (k : Int) (i : Nat), 0 ≤ k → k < n → bit (layN S A n (6 * frS S k + toS S k)) i = true → bit (keptI S k) i = true
  | 0, _, k, i, k0, k1, _ => absurd k1 (by omega)
  | n + 1, hn, k, i, k0, k1, hb => by
    have hT := h.1
    have z := h.2.2.2.2 n (by omega) (by omega)
    unfold SpOk at z
    by_cases e : k = n
    · subst e
      have hb' : bit (narA (S 0).toNat (layN S A n) (frS S n) (toS S n) (keptI S n) (6 * frS S n + toS S n)) i = true := hb
      unfold narA at hb'
      have ne : (6 * frS S n + toS S n : Int) ≠ 6 * toS S n + frS S n := fun w => z.2.2.1 (by show frS S n = toS S n; omega)
      rw [upS_ne ne, upS_same, bit_and, Bool.and_eq_true] at hb'
      exact hb'.2
    · exact lay_kept h hA hs n (by omega) k i k0 (by omega) (nar_sub (by omega) (layN_sym h hA hs n (by omega)) z.1 z.2.1 z.2.2.1 _ i hb)
theorem itR_sub {T E : Nat} {A : Int → Int} : ∀ k : Nat, SubA (itR T E A k) A
  | 0 => SubA.rf
  | k + 1 => SubA.tr (phN_sub E) (itR_sub k)
theorem VAL.kept {S tau : Int → Int} (h : Ok S) (hv : VAL S tau) : KEPT S tau := by
  have hE := h.2.1
  have hT := h.1
  have hN := h.2.2.1
  intro k k0 k1
  have z := h.2.2.2.2 k k0 k1
  unfold SpOk at z
  have f0 : 0 ≤ frS S k ∧ frS S k < S 1 := z.1
  have t0 : 0 ≤ toS S k ∧ toS S k < S 1 := z.2.1
  have ne : frS S k ≠ toS S k := z.2.2.1
  have b : bit (tgS S (6 * frS S k + toS S k)) (dfN S tau (frS S k) (toS S k)) = true := by
    by_cases y : frS S k < toS S k
    · exact (hv (toS S k) t0.1 t0.2).2 (frS S k) f0.1 y
    · have b2 := (hv (frS S k) f0.1 f0.2).2 (toS S k) t0.1 (by omega)
      rw [tgS_sym h (toS S k) (frS S k) t0.1 t0.2 f0.1 f0.2 (fun w => ne w.symm), turn_bit (by omega), Bool.and_eq_true, decide_eq_true_eq]
      have e := dfN_rev h (tau := tau) (a := toS S k) (b := frS S k)
      exact ⟨(dfN_int h).2, by rw [← e]; exact b2⟩
  have b3 := itR_sub (T := (S 0).toNat) (E := (S 1).toNat) (A := lyS S) (rdS S + 1) _ _ b
  exact (keptI_bit h).mp (lay_kept h (lay0_ok (by omega) (by omega) _) (lay0_sym (by omega) (by omega) _) (S 20).toNat (by omega) k _ k0 (by omega) b3)
theorem flT_keep {f : Nat → StT → StT} {st : StT} (h : ∀ i st, st.1 ≠ -1 → (f i st).1 ≠ -1) (h0 : st.1 ≠ -1) : ∀ n : Nat, (flT f n st).1 ≠ -1
  | 0 => h0
  | n + 1 => h n _ (flT_keep h h0 n)
theorem ful_keep {S : Int → Int} (h : Ok S) {first : Int} : ∀ (j e : Nat) (tau : Int → Int) (st : StT), st.1 ≠ -1 → (ful S first j e tau st).1 ≠ -1
  | 0, e, tau, st, h0 => by
    show (updT S first tau st).1 ≠ -1
    unfold updT
    have := CT_lt h (tau := tau)
    split
    · show CT S tau ≠ -1
      omega
    · exact h0
  | j + 1, e, tau, st, h0 => by
    rw [ful_s]
    exact flT_keep (fun i st hi => ful_keep h j (e + 1) _ st hi) h0 _
theorem VAL_ext {S tau tau' : Int → Int} (he : ∀ a, 0 ≤ a → a < S 1 → tau' a = tau a) (hv : VAL S tau) : VAL S tau' := fun e e0 e1 => (VL_agr e0 (fun a a0 a1 => he a a0 (by omega))).mpr (hv e e0 e1)
theorem ful_find {S : Int → Int} (h : Ok S) {first : Int} {tau : Int → Int} (hv : VAL S tau) (ht : ∀ a, 0 ≤ a → a < S 1 → 0 ≤ tau a ∧ tau a < S 0) : ∀ (j e : Nat) (tau' : Int → Int) (st : StT), (e : Int) + j = S 1 → (∀ a, 0 ≤ a → a < (e : Int) → tau' a = tau a) → (ful S first j e tau' st).1 ≠ -1
  | 0, e, tau', st, he, ha => by
    show (updT S first tau' st).1 ≠ -1
    have h9 := CT_lt h (tau := tau')
    have hv' : VAL S tau' := VAL_ext (fun a a0 a1 => ha a a0 (by omega)) hv
    unfold updT
    by_cases z : wnt first st (CT S tau')
    · rw [if_pos ⟨hv', z⟩]
      show CT S tau' ≠ -1
      omega
    · rw [if_neg (fun y => z y.2)]
      exact fun y => z (Or.inl y)
  | j + 1, e, tau', st, he, ha => by
    rw [ful_s]
    have te := ht e (by omega) (by omega)
    have key : ∀ n : Nat, (tau e) < n → (flT (fun t st => ful S first j (e + 1) (upS tau' e t) st) n st).1 ≠ -1 := by
      intro n
      induction n with
      | zero => intro hn; omega
      | succ n ih =>
        intro hn
        show (ful S first j (e + 1) (upS tau' e n) (flT (fun t st => ful S first j (e + 1) (upS tau' e t) st) n st)).1 ≠ -1
        by_cases z : tau e = n
        · refine ful_find h hv ht j (e + 1) _ _ (by omega) (fun a a0 a1 => ?_)
          by_cases y : a = e
          · rw [y, upS_same, z]
          · rw [upS_ne y]; exact ha a a0 (by omega)
        · exact ful_keep h _ _ _ _ (ih (by omega))
    exact key _ (by omega)
/-- a good timetable of a row -/
def GOOD (S : Int → Int) : Prop := ∃ tau : Int → Int, (∀ a, 0 ≤ a → a < S 1 → 0 ≤ tau a ∧ tau a < S 0) ∧ (0 < S 1 → tau 0 = S 14) ∧ KEPT S tau
theorem goS_good {S : Int → Int} (h : Ok S) {first : Int} : ¬ (goS S first).1 = -1 ↔ GOOD S := by
  have hE := h.2.1
  have hT := h.1
  constructor
  · intro z
    obtain ⟨g1, g2, g3⟩ := (goS_inv h (first := first)).resolve_left z
    exact ⟨_, g3, fun y => (g2 0 (by decide) y).1 rfl, g2.kept h⟩
  · rintro ⟨tau, g1, g2, g3⟩
    have hc : CONS S tau (tgS S) := (CONS.lay h g3).it h _
    have hv : VAL S tau := fun e e0 e1 => ⟨fun y => g2 (by omega), fun a a0 a1 => hc a e a0 (by omega) e0 e1⟩
    have ne : ¬ emp (S 1) (tgS S) := by
      rintro ⟨a, b, a0, b0, z⟩
      have := hc a b a0.1 a0.2 b0.1 b0.2
      rw [z, bit_0] at this
      exact absurd this (by decide)
    unfold goS
    rw [if_neg ne]
    exact ful_find h hv g1 _ 0 _ _ (by omega) (fun a a0 a1 => absurd a1 (by omega))
theorem upS_upS {S : Int → Int} {i v w : Int} : upS (upS S i v) i w = upS S i w := by
  funext j
  by_cases z : j = i
  · rw [z, upS_same, upS_same]
  · rw [upS_ne z, upS_ne z, upS_ne z]