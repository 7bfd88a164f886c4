/-! 53: looking for timetables: all of them in their order, and what may be left out -/
abbrev StT : Type := Int × (Int → Int)
def flT (f : Nat → StT → StT) : Nat → StT → StT
  | 0, st => st
  | n + 1, st => f n (flT f n st)
theorem flT_id {f : Nat → StT → StT} {st : StT} : ∀ n : Nat, (∀ i, i < n → f i st = st) → flT f n st = st
  | 0, _ => rfl
  | n + 1, h => by
    show f n (flT f n st) = st
    rw [flT_id n (fun i hi => h i (by omega))]
    exact h n (by omega)
/-- event e is in order behind the earlier ones -/
def VL (S tau : Int → Int) (e : Int) : Prop := (e = 0 → tau 0 = S 14) ∧ ∀ a, 0 ≤ a → a < e → bit (tgS S (6 * a + e)) (((tau e - tau a) % S 0).toNat) = true
def VAL (S tau : Int → Int) : Prop := ∀ e, 0 ≤ e → e < S 1 → VL S tau e
abbrev spC (S tau : Int → Int) (k : Int) : Int := S (21 + 5 * k + 4) * slBy S k (tau (toS S k) - tau (frS S k))
def cA (S tau : Int → Int) (e : Int) : Int := sumI (fun k => if max (frS S k) (toS S k) = e then spC S tau k else 0) (S 20).toNat
def cPar (S tau : Int → Int) : Nat → Int
  | 0 => 0
  | e + 1 => cPar S tau e + cA S tau e
def CT (S tau : Int → Int) : Int := cPar S tau (S 1).toNat
/-- whether a timetable of cost c is taken -/
def wnt (first : Int) (st : StT) (c : Int) : Prop := st.1 = -1 ∨ (first = 0 ∧ c < st.1)
noncomputable def updT (S : Int → Int) (first : Int) (tau : Int → Int) (st : StT) : StT := @ite StT (VAL S tau ∧ wnt first st (CT S tau)) (Classical.propDecidable _) (CT S tau, tau) st
noncomputable def ful (S : Int → Int) (first : Int) : Nat → Nat → (Int → Int) → StT → StT
  | 0, _, tau, st => updT S first tau st
  | j + 1, e, tau, st => flT (fun t st => ful S first j (e + 1) (upS tau e t) st) (S 0).toNat st
theorem ful_s {S : Int → Int} {first : Int} {j e : Nat} {tau : Int → Int} {st : StT} : ful S first (j + 1) e tau st = flT (fun t st => ful S first j (e + 1) (upS tau e t) st) (S 0).toNat st := rfl
theorem ful_id {S : Int → Int} {first : Int} {st : StT} : ∀ (j e : Nat) (tau : Int → Int), (∀ tau', (∀ a, 0 ≤ a → a < (e : Int) → tau' a = tau a) → (∀ a, (e : Int) ≤ a → a < (e : Int) + j → 0 ≤ tau' a ∧ tau' a < S 0) → VAL S tau' → ¬ wnt first st (CT S tau')) → ful S first j e tau st = st
  | 0, e, tau, h => by
    show updT S first tau st = st
    unfold updT
    refine if_neg (fun z => h tau (fun _ _ _ => rfl) (fun a q0 q1 => absurd q1 (by omega)) z.1 z.2)
  | j + 1, e, tau, h => by
    rw [ful_s]
    refine flT_id _ (fun t ht => ful_id j (e + 1) _ (fun tau' h1 h2 hv => h tau' (fun a a0 a1 => ?_) (fun a a0 a1 => ?_) hv))
    · rw [h1 a a0 (by omega), upS_ne (by omega)]
    · by_cases z : a = e
      · rw [z, h1 e (by omega) (by omega), upS_same]; omega
      · exact h2 a (by omega) (by omega)
theorem spC_bd {S : Int → Int} (h : Ok S) {tau : Int → Int} {k : Int} (h0 : 0 ≤ k) (h1 : k < S 20) : 0 ≤ spC S tau k ∧ spC S tau k ≤ 460 := by
  have z := h.2.2.2.2 k h0 h1
  have z2 := slBy_bd h k (tau (toS S k) - tau (frS S k))
  unfold SpOk at z
  have z3 : 0 ≤ S (21 + 5 * k + 4) := z.2.2.2.2.2.1
  have z4 : S (21 + 5 * k + 4) ≤ 20 := z.2.2.2.2.2.2
  have e1 := Int.mul_nonneg z3 z2.1
  have e2 := Int.mul_le_mul z4 z2.2 z2.1 (by decide)
  unfold spC
  omega
theorem cA_bd {S : Int → Int} (h : Ok S) {tau : Int → Int} {e : Int} : 0 ≤ cA S tau e ∧ cA S tau e ≤ 6440 := by
  have hN := h.2.2.1
  have := sumI_bd (f := fun k => if max (frS S k) (toS S k) = e then spC S tau k else 0) (c := 460) (S 20).toNat (fun k h0 h1 => by
    have := spC_bd h (tau := tau) h0 (by omega)
    split <;> omega)
  unfold cA
  omega
theorem cPar_bd {S : Int → Int} (h : Ok S) {tau : Int → Int} : ∀ n : Nat, 0 ≤ cPar S tau n ∧ cPar S tau n ≤ 6440 * n
  | 0 => by unfold cPar; omega
  | n + 1 => by
    have := cPar_bd h (tau := tau) n
    have := cA_bd h (tau := tau) (e := n)
    unfold cPar
    omega
theorem sumI_swap {g : Int → Int → Int} (N : Nat) : ∀ e : Nat, sumI (fun a => sumI (fun k => g a k) N) e = sumI (fun k => sumI (fun a => g a k) e) N
  | 0 => by
    show 0 = sumI (fun k => 0) N
    have : ∀ m : Nat, sumI (fun _ => 0) m = 0 := fun m => by
      induction m with
      | zero => rfl
      | succ m ih => show sumI (fun _ => 0) m + 0 = 0; omega
    exact (this N).symm
  | e + 1 => by
    have ih := sumI_swap (g := g) N e
    show sumI (fun a => sumI (fun k => g a k) N) e + sumI (fun k => g e k) N = sumI (fun k => sumI (fun a => g a k) e + g e k) N
    rw [ih, sumI_add]
theorem sumI_one {c u : Int} : ∀ n : Nat, sumI (fun a => if a = u then c else 0) n = if 0 ≤ u ∧ u < n then c else 0
  | 0 => by rw [if_neg (by omega)]; rfl
  | n + 1 => by
    have ih := sumI_one (c := c) (u := u) n
    show sumI (fun a => if a = u then c else 0) n + (if (n : Int) = u then c else 0) = _
    rw [ih]
    by_cases z : (n : Int) = u
    · rw [if_pos z, if_neg (by omega), if_pos (by omega)]; omega
    · rw [if_neg z]
      by_cases y : 0 ≤ u ∧ u < n
      · rw [if_pos y, if_pos (by omega)]; omega
      · rw [if_neg y, if_neg (by omega)]; omega
/-! the class's prices -/
abbrev gSp (S : Int → Int) (a b d k : Int) : Int := if min (frS S k) (toS S k) = a ∧ max (frS S k) (toS S k) = b then S (21 + 5 * k + 4) * slBy S k (if frS S k = a then d else -d) else 0
noncomputable def pcN2 (S : Int → Int) (a b d : Int) (n : Nat) : Int := (if bit (tgS S (6 * a + b)) d.toNat = true then 0 else 1048576) + sumI (gSp S a b d) n
noncomputable abbrev pc (S : Int → Int) (a b d : Int) : Int := pcN2 S a b d (S 20).toNat
def bsP (S : Int → Int) (e t : Int) : Int := if 0 < e ∨ t = S 14 then 0 else 1048576
/-- what event b at time t costs with the first e events -/
noncomputable def rwP (S tau : Int → Int) (e : Nat) (b t : Int) : Int := bsP S b t + sumI (fun a => pc S a b ((t - tau a) % S 0)) e
noncomputable def lvP (S tau : Int → Int) (e : Int) : Int := rwP S tau e.toNat e (tau e)
noncomputable def kP (S tau : Int → Int) : Nat → Int
  | 0 => 0
  | e + 1 => kP S tau e + lvP S tau e
theorem gSp_bd {S : Int → Int} (h : Ok S) {a b d k : Int} (h0 : 0 ≤ k) (h1 : k < S 20) : 0 ≤ gSp S a b d k ∧ gSp S a b d k ≤ 460 := by
  have z := h.2.2.2.2 k h0 h1
  have z2 := slBy_bd h k (if frS S k = a then d else -d)
  unfold SpOk at z
  have z3 : 0 ≤ S (21 + 5 * k + 4) := z.2.2.2.2.2.1
  have z4 : S (21 + 5 * k + 4) ≤ 20 := z.2.2.2.2.2.2
  have e1 := Int.mul_nonneg z3 z2.1
  have e2 := Int.mul_le_mul z4 z2.2 z2.1 (by decide)
  unfold gSp
  split <;> omega
theorem pcN2_bd {S : Int → Int} (h : Ok S) {a b d : Int} {n : Nat} (hn : (n : Int) ≤ S 20) : (0 ≤ pcN2 S a b d n ∧ pcN2 S a b d n ≤ 1048576 + 6440) ∧ (¬ bit (tgS S (6 * a + b)) d.toNat = true → 1048576 ≤ pcN2 S a b d n) := by
  have hN := h.2.2.1
  have := sumI_bd (f := gSp S a b d) (c := 460) n (fun k h0 h1 => gSp_bd h h0 (by omega))
  unfold pcN2
  constructor
  · split <;> omega
  · intro z; rw [if_neg z]; omega
theorem pc_bd {S : Int → Int} (h : Ok S) {a b d : Int} : (0 ≤ pc S a b d ∧ pc S a b d ≤ 1048576 + 6440) ∧ (¬ bit (tgS S (6 * a + b)) d.toNat = true → 1048576 ≤ pc S a b d) := pcN2_bd h (by have := h.2.2.1; omega)
theorem rwP_bd {S : Int → Int} (h : Ok S) {tau : Int → Int} {e : Nat} {b t : Int} : 0 ≤ rwP S tau e b t ∧ rwP S tau e b t ≤ 1048576 + (1048576 + 6440) * e := by
  have := sumI_bd (f := fun a => pc S a b ((t - tau a) % S 0)) (c := 1048576 + 6440) e (fun k _ _ => (pc_bd h).1)
  have hm : ((e : Nat) : Int) * (1048576 + 6440) = (1048576 + 6440) * e := Int.mul_comm _ _
  unfold rwP bsP
  split <;> omega
theorem rwP_s {S tau : Int → Int} {e : Nat} {b t : Int} : rwP S tau (e + 1) b t = rwP S tau e b t + pc S e b ((t - tau e) % S 0) := by
  show bsP S b t + (sumI (fun a => pc S a b ((t - tau a) % S 0)) e + pc S e b ((t - tau e) % S 0)) = _
  unfold rwP
  omega
theorem rwP_agr {S tau tau' : Int → Int} {e : Nat} {b t : Int} (h1 : ∀ a, 0 ≤ a → a < (e : Int) → tau' a = tau a) : rwP S tau' e b t = rwP S tau e b t := by
  unfold rwP
  congr 1
  exact sumI_congr _ (fun k k0 k1 => by rw [h1 k k0 k1])
theorem slBy_per {S : Int → Int} {k d q : Int} : slBy S k (d + S 0 * q) = slBy S k d := by
  unfold slBy
  rw [show d + S 0 * q - S (21 + 5 * k + 2) = d - S (21 + 5 * k + 2) + S 0 * q by omega, Int.add_mul_emod_self_left]
theorem slBy_mod {S : Int → Int} {k x : Int} : slBy S k (x % S 0) = slBy S k x ∧ slBy S k (-(x % S 0)) = slBy S k (-x) := by
  have e := Int.mul_ediv_add_emod x (S 0)
  refine ⟨?_, ?_⟩
  · have := slBy_per (S := S) (k := k) (d := x % S 0) (q := x / S 0)
    rw [← this]; congr 1; omega
  · have := slBy_per (S := S) (k := k) (d := -x) (q := x / S 0)
    rw [← this]; congr 1; omega
theorem lv_ok {S tau : Int → Int} (h : Ok S) {e : Int} (h0 : 0 ≤ e) (hv : VL S tau e) : lvP S tau e = cA S tau e := by
  obtain ⟨v1, v2⟩ := hv
  have hN := h.2.2.1
  have b0 : bsP S e (tau e) = 0 := by
    unfold bsP
    by_cases z : e = 0
    · rw [if_pos (Or.inr (by rw [z]; exact v1 z))]
    · rw [if_pos (Or.inl (by omega))]
  unfold lvP rwP
  rw [b0, Int.zero_add]
  have e1 : sumI (fun a => pc S a e ((tau e - tau a) % S 0)) e.toNat = sumI (fun a => sumI (fun k => gSp S a e ((tau e - tau a) % S 0) k) (S 20).toNat) e.toNat := by
    refine sumI_congr _ (fun a a0 a1 => ?_)
    show (if bit (tgS S (6 * a + e)) (((tau e - tau a) % S 0).toNat) = true then 0 else 1048576) + _ = _
    rw [if_pos (v2 a a0 (by omega)), Int.zero_add]
  rw [e1, sumI_swap]
  unfold cA
  refine sumI_congr _ (fun k k0 k1 => ?_)
  have z := h.2.2.2.2 k k0 (by omega)
  unfold SpOk at z
  have f0 : 0 ≤ frS S k := z.1.1
  have t0 : 0 ≤ toS S k := z.2.1.1
  have ne : frS S k ≠ toS S k := z.2.2.1
  by_cases y : max (frS S k) (toS S k) = e
  · rw [if_pos y]
    have e2 : sumI (fun a => gSp S a e ((tau e - tau a) % S 0) k) e.toNat = sumI (fun a => if a = min (frS S k) (toS S k) then spC S tau k else 0) e.toNat := by
      refine sumI_congr _ (fun a a0 a1 => ?_)
      unfold gSp
      by_cases w : min (frS S k) (toS S k) = a
      · rw [if_pos ⟨w, y⟩, if_pos w.symm]
        unfold spC
        congr 1
        by_cases q : frS S k = a
        · rw [if_pos q, slBy_mod.1, q]
          congr 2
          congr 1
          omega
        · rw [if_neg q, slBy_mod.2]
          have q1 : toS S k = a := by omega
          have q2 : frS S k = e := by omega
          rw [q1, q2]
          congr 1
          omega
      · rw [if_neg (fun z => w z.1), if_neg (fun z => w z.symm)]
    rw [e2, sumI_one, if_pos (by omega)]
  · rw [if_neg y]
    have e2 : sumI (fun a => gSp S a e ((tau e - tau a) % S 0) k) e.toNat = sumI (fun a => if a = -1 then 0 else 0) e.toNat := by
      refine sumI_congr _ (fun a a0 a1 => ?_)
      unfold gSp
      rw [if_neg (fun z => y z.2)]
      split <;> rfl
    rw [e2, sumI_one, if_neg (by omega)]
theorem sumI_ge {f : Int → Int} : ∀ n : Nat, (∀ k : Int, 0 ≤ k → k < n → 0 ≤ f k) → ∀ a : Int, 0 ≤ a → a < n → f a ≤ sumI f n
  | 0, _, a, h0, h1 => by omega
  | n + 1, h, a, h0, h1 => by
    have nn : ∀ m : Nat, m ≤ n → 0 ≤ sumI f m := fun m => by
      induction m with
      | zero => intro _; exact Int.le_refl _
      | succ m ih =>
        intro hm
        have := ih (by omega)
        have := h m (by omega) (by omega)
        show 0 ≤ sumI f m + f m
        omega
    have p := nn n (Nat.le_refl _)
    show f a ≤ sumI f n + f n
    by_cases e : a = n
    · rw [e]; omega
    · have := sumI_ge n (fun k q0 q1 => h k q0 (by omega)) a h0 (by omega)
      have := h n (by omega) (by omega)
      omega
theorem lv_bad {S tau : Int → Int} (h : Ok S) {e : Int} (h0 : 0 ≤ e) (hv : ¬ VL S tau e) : 1048576 ≤ lvP S tau e := by
  have bd := sumI_bd (f := fun a => pc S a e ((tau e - tau a) % S 0)) (c := 1048576 + 6440) e.toNat (fun k _ _ => (pc_bd h).1)
  unfold lvP rwP
  by_cases z : e = 0 ∧ tau 0 ≠ S 14
  · unfold bsP
    rw [if_neg (by rw [z.1]; omega)]
    omega
  · have : ∃ a, 0 ≤ a ∧ a < e ∧ ¬ bit (tgS S (6 * a + e)) (((tau e - tau a) % S 0).toNat) = true := Classical.byContradiction fun q => hv ⟨fun y => Classical.byContradiction fun w => z ⟨y, w⟩, fun a a0 a1 => Classical.byContradiction fun w => q ⟨a, a0, a1, w⟩⟩
    obtain ⟨a, a0, a1, q⟩ := this
    have g := sumI_ge (f := fun a => pc S a e ((tau e - tau a) % S 0)) e.toNat (fun k _ _ => (pc_bd h).1.1) a a0 (by omega)
    have g2 := (pc_bd h (a := a) (b := e) (d := (tau e - tau a) % S 0)).2 q
    have b0 : 0 ≤ bsP S e (tau e) := by unfold bsP; split <;> omega
    have g3 : pc S a e ((tau e - tau a) % S 0) ≤ sumI (fun a => pc S a e ((tau e - tau a) % S 0)) e.toNat := g
    omega
theorem lv_nn {S tau : Int → Int} (h : Ok S) {e : Int} : 0 ≤ lvP S tau e := (rwP_bd h).1
theorem kP_mono {S : Int → Int} (h : Ok S) {tau : Int → Int} {m : Nat} : ∀ n : Nat, m ≤ n → kP S tau m ≤ kP S tau n
  | 0, hm => by
    obtain rfl : m = 0 := by omega
    exact Int.le_refl _
  | n + 1, hm => by
    by_cases e : m = n + 1
    · rw [e]; exact Int.le_refl _
    · have := kP_mono h (tau := tau) (m := m) n (by omega)
      have := lv_nn h (tau := tau) (e := n)
      show kP S tau m ≤ kP S tau n + lvP S tau n
      omega
theorem kP_nn {S : Int → Int} (h : Ok S) {tau : Int → Int} (n : Nat) : 0 ≤ kP S tau n := kP_mono h (m := 0) n (Nat.zero_le _)
theorem kP_ok {S tau : Int → Int} (h : Ok S) : ∀ n : Nat, (∀ e, 0 ≤ e → e < (n : Int) → VL S tau e) → kP S tau n = cPar S tau n
  | 0, _ => rfl
  | n + 1, hv => by
    show kP S tau n + lvP S tau n = cPar S tau n + cA S tau n
    rw [kP_ok h n (fun e e0 e1 => hv e e0 (by omega)), lv_ok h (by omega) (hv n (by omega) (by omega))]
theorem kP_bad {S tau : Int → Int} (h : Ok S) {n : Nat} {e : Nat} (he : e < n) (hv : ¬ VL S tau e) : 1048576 ≤ kP S tau n := by
  have a := kP_mono h (tau := tau) (m := e + 1) n (by omega)
  have b := lv_bad h (by omega) hv
  have c := kP_nn h (tau := tau) e
  have d : kP S tau (e + 1) = kP S tau e + lvP S tau e := rfl
  omega
/-- the class's leaf: below 1048576, it is in order and costs what the reference says -/
theorem kP_leaf {S tau : Int → Int} (h : Ok S) (hl : kP S tau (S 1).toNat < 1048576) : VAL S tau ∧ kP S tau (S 1).toNat = CT S tau := by
  have hE := h.2.1
  have hv : VAL S tau := fun e e0 e1 => Classical.byContradiction fun z => by
    obtain ⟨n, rfl⟩ : ∃ n : Nat, e = (n : Int) := ⟨e.toNat, by omega⟩
    have := kP_bad h (n := (S 1).toNat) (e := n) (by omega) z
    omega
  exact ⟨hv, kP_ok h _ (fun e e0 e1 => hv e e0 (by omega))⟩
theorem kP_CT {S tau : Int → Int} (h : Ok S) (hv : VAL S tau) : kP S tau (S 1).toNat = CT S tau := by
  have hE := h.2.1
  exact kP_ok h _ (fun e e0 e1 => hv e e0 (by omega))
theorem CT_lt {S tau : Int → Int} (h : Ok S) : 0 ≤ CT S tau ∧ CT S tau < 1048576 := by
  have hE := h.2.1
  have := cPar_bd h (tau := tau) (S 1).toNat
  unfold CT
  omega
theorem kP_agr {S tau tau' : Int → Int} : ∀ n : Nat, (∀ a, 0 ≤ a → a < (n : Int) → tau' a = tau a) → kP S tau' n = kP S tau n
  | 0, _ => rfl
  | n + 1, h1 => by
    show kP S tau' n + lvP S tau' n = kP S tau n + lvP S tau n
    rw [kP_agr n (fun a a0 a1 => h1 a a0 (by omega))]
    unfold lvP
    rw [h1 n (by omega) (by omega), Int.toNat_natCast, rwP_agr (fun a a0 a1 => h1 a a0 (by omega))]
/-- the least of the first n -/
def mnN (f : Int → Int) : Nat → Int
  | 0 => 1048576
  | n + 1 => min (mnN f n) (f n)
theorem mnN_le {f : Int → Int} : ∀ (n : Nat) (i : Int), 0 ≤ i → i < n → mnN f n ≤ f i
  | 0, i, h0, h1 => by omega
  | n + 1, i, h0, h1 => by
    show min (mnN f n) (f n) ≤ f i
    by_cases e : i = n
    · rw [e]; omega
    · have := mnN_le (f := f) n i h0 (by omega)
      omega
theorem mnN_bd {f : Int → Int} : ∀ n : Nat, (∀ i : Int, 0 ≤ i → i < n → 0 ≤ f i) → 0 ≤ mnN f n ∧ mnN f n ≤ 1048576
  | 0, _ => by unfold mnN; omega
  | n + 1, h => by
    have := mnN_bd n (fun i i0 i1 => h i i0 (by omega))
    have := h n (by omega) (by omega)
    show 0 ≤ min (mnN f n) (f n) ∧ min (mnN f n) (f n) ≤ 1048576
    omega
theorem mnN_congr {f g : Int → Int} : ∀ n : Nat, (∀ i : Int, 0 ≤ i → i < n → f i = g i) → mnN f n = mnN g n
  | 0, _ => rfl
  | n + 1, h => by
    show min (mnN f n) (f n) = min (mnN g n) (g n)
    rw [mnN_congr n (fun i i0 i1 => h i i0 (by omega)), h n (by omega) (by omega)]
/-- the least that the pair a, b can cost; the pairs behind event e -/
noncomputable def mpP (S : Int → Int) (a b : Int) : Int := mnN (fun d => pc S a b d) (S 0).toNat
noncomputable def sbP (S : Int → Int) (a : Int) : Int := sumI (fun b => if a < b then mpP S a b else 0) (S 1).toNat
noncomputable def laP (S : Int → Int) (e : Int) : Int := sumI (fun a => if e < a then sbP S a else 0) (S 1).toNat
/-- the least that event b can cost with the first e events -/
noncomputable def mrP (S tau : Int → Int) (e : Nat) (b : Int) : Int := mnN (fun t => rwP S tau e b t) (S 0).toNat
noncomputable def srP (S tau : Int → Int) (e : Nat) : Int := sumI (fun b => if (e : Int) ≤ b then mrP S tau e b else 0) (S 1).toNat
theorem sumI_mono {f g : Int → Int} : ∀ n : Nat, (∀ k : Int, 0 ≤ k → k < n → f k ≤ g k) → sumI f n ≤ sumI g n
  | 0, _ => Int.le_refl _
  | n + 1, h => by
    have := sumI_mono n (fun k h0 h1 => h k h0 (by omega))
    have h2 := h n (by omega) (by omega)
    show sumI f n + f n ≤ sumI g n + g n
    omega
theorem rwP_split {S tau : Int → Int} {e : Nat} {b t : Int} : ∀ n : Nat, e ≤ n → rwP S tau n b t = rwP S tau e b t + sumI (fun a => if (e : Int) ≤ a then pc S a b ((t - tau a) % S 0) else 0) n := by
  intro n
  induction n with
  | zero =>
    intro hn
    obtain rfl : e = 0 := by omega
    show _ = _ + 0
    omega
  | succ n ih =>
    intro hn
    by_cases z : e = n + 1
    · subst z
      have : sumI (fun a => if ((n + 1 : Nat) : Int) ≤ a then pc S a b ((t - tau a) % S 0) else 0) (n + 1) = sumI (fun a => if a = -1 then 0 else 0) (n + 1) := sumI_congr _ (fun k k0 k1 => by rw [if_neg (by omega)]; split <;> rfl)
      rw [this, sumI_one, if_neg (by omega)]
      omega
    · rw [rwP_s, ih (by omega)]
      show _ = _ + (sumI (fun a => if (e : Int) ≤ a then pc S a b ((t - tau a) % S 0) else 0) n + (if (e : Int) ≤ (n : Int) then pc S n b ((t - tau n) % S 0) else 0))
      rw [if_pos (by omega)]
      omega
/-- no way behind the first e events costs less -/
theorem kP_low {S tau : Int → Int} (h : Ok S) {e : Nat} (he : (e : Int) ≤ S 1) (ht : ∀ a, (e : Int) ≤ a → a < S 1 → 0 ≤ tau a ∧ tau a < S 0) : kP S tau e + (laP S ((e : Int) - 1) + srP S tau e) ≤ kP S tau (S 1).toNat := by
  have hE := h.2.1
  have hT := h.1
  have key : ∀ n : Nat, e ≤ n → kP S tau n = kP S tau e + sumI (fun b => if (e : Int) ≤ b then lvP S tau b else 0) n := by
    intro n
    induction n with
    | zero =>
      intro hn
      obtain rfl : e = 0 := by omega
      show _ = _ + 0
      omega
    | succ n ih =>
      intro hn
      by_cases z : e = n + 1
      · subst z
        have : sumI (fun b => if ((n + 1 : Nat) : Int) ≤ b then lvP S tau b else 0) (n + 1) = sumI (fun a => if a = -1 then 0 else 0) (n + 1) := sumI_congr _ (fun k k0 k1 => by rw [if_neg (by omega)]; split <;> rfl)
        rw [this, sumI_one, if_neg (by omega)]
        omega
      · show kP S tau n + lvP S tau n = _ + (sumI (fun b => if (e : Int) ≤ b then lvP S tau b else 0) n + (if (e : Int) ≤ (n : Int) then lvP S tau n else 0))
        rw [ih (by omega), if_pos (by omega)]
        omega
  rw [key (S 1).toNat (by omega)]
  have dif : ∀ x, (tau x - tau x) % S 0 = (tau x - tau x) % S 0 := fun _ => rfl
  have q1 : sumI (fun b => if (e : Int) ≤ b then lvP S tau b else 0) (S 1).toNat = sumI (fun b => (if (e : Int) ≤ b then rwP S tau e b (tau b) else 0) + (if (e : Int) ≤ b then sumI (fun a => if (e : Int) ≤ a then pc S a b ((tau b - tau a) % S 0) else 0) b.toNat else 0)) (S 1).toNat := by
    refine sumI_congr _ (fun b b0 b1 => ?_)
    by_cases z : (e : Int) ≤ b
    · rw [if_pos z, if_pos z, if_pos z]
      unfold lvP
      exact rwP_split b.toNat (by omega)
    · rw [if_neg z, if_neg z, if_neg z]; rfl
  rw [q1, sumI_add]
  have q2 : srP S tau e ≤ sumI (fun b => if (e : Int) ≤ b then rwP S tau e b (tau b) else 0) (S 1).toNat := by
    refine sumI_mono _ (fun b b0 b1 => ?_)
    by_cases z : (e : Int) ≤ b
    · rw [if_pos z, if_pos z]
      have := ht b z (by omega)
      exact mnN_le (f := fun t => rwP S tau e b t) _ _ this.1 (by omega)
    · rw [if_neg z, if_neg z]; exact Int.le_refl _
  have q3 : laP S ((e : Int) - 1) ≤ sumI (fun b => if (e : Int) ≤ b then sumI (fun a => if (e : Int) ≤ a then pc S a b ((tau b - tau a) % S 0) else 0) b.toNat else 0) (S 1).toNat := by
    have r1 : laP S ((e : Int) - 1) = sumI (fun a => sumI (fun b => if (e : Int) ≤ a ∧ a < b then mpP S a b else 0) (S 1).toNat) (S 1).toNat := by
      unfold laP
      refine sumI_congr _ (fun a a0 a1 => ?_)
      unfold sbP
      by_cases z : (e : Int) - 1 < a
      · rw [if_pos z]
        refine sumI_congr _ (fun b b0 b1 => ?_)
        by_cases y : a < b
        · rw [if_pos y, if_pos ⟨by omega, y⟩]
        · rw [if_neg y, if_neg (fun w => y w.2)]
      · rw [if_neg z]
        have : sumI (fun b => if (e : Int) ≤ a ∧ a < b then mpP S a b else 0) (S 1).toNat = sumI (fun a => if a = -1 then 0 else 0) (S 1).toNat := sumI_congr _ (fun k k0 k1 => by rw [if_neg (by omega)]; split <;> rfl)
        rw [this, sumI_one, if_neg (by omega)]
    rw [r1, sumI_swap]
    refine sumI_mono _ (fun b b0 b1 => ?_)
    have ext : ∀ n : Nat, b.toNat ≤ n → sumI (fun a => if (e : Int) ≤ a ∧ a < b then mpP S a b else 0) n = sumI (fun a => if (e : Int) ≤ a ∧ a < b then mpP S a b else 0) b.toNat := by
      intro n
      induction n with
      | zero => intro hn; rw [show b.toNat = 0 by omega]
      | succ n ih =>
        intro hn
        by_cases y : b.toNat = n + 1
        · rw [y]
        · show sumI (fun a => if (e : Int) ≤ a ∧ a < b then mpP S a b else 0) n + (if (e : Int) ≤ (n : Int) ∧ (n : Int) < b then mpP S n b else 0) = _
          rw [if_neg (by omega), ih (by omega)]
          omega
    rw [ext _ (by omega)]
    by_cases z : (e : Int) ≤ b
    · rw [if_pos z]
      refine sumI_mono _ (fun a a0 a1 => ?_)
      by_cases y : (e : Int) ≤ a
      · rw [if_pos ⟨y, by omega⟩, if_pos y]
        have m0 := Int.emod_nonneg (tau b - tau a) (show S 0 ≠ 0 by omega)
        have m1 := Int.emod_lt_of_pos (tau b - tau a) (show 0 < S 0 by omega)
        exact mnN_le (f := fun d => pc S a b d) _ _ m0 (by omega)
      · rw [if_neg (fun w => y w.1), if_neg y]; exact Int.le_refl _
    · rw [if_neg z]
      have : sumI (fun a => if (e : Int) ≤ a ∧ a < b then mpP S a b else 0) b.toNat = sumI (fun a => if a = -1 then 0 else 0) b.toNat := sumI_congr _ (fun k k0 k1 => by rw [if_neg (by omega)]; split <;> rfl)
      rw [this, sumI_one, if_neg (by omega)]
      exact Int.le_refl _
  omega
