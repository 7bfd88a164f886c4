/-! f1: the search, as one row of tries -/
theorem flT_cg {f g : Nat → StT → StT} {st : StT} : ∀ n : Nat, (∀ i st, i < n → f i st = g i st) → flT f n st = flT g n st
  | 0, _ => rfl
  | n + 1, h => by
    show f n (flT f n st) = g n (flT g n st)
    rw [flT_cg n (fun i st hi => h i st (by omega)), h n _ (by omega)]
theorem flT_ad {g : Nat → StT → StT} {st : StT} {a : Nat} : ∀ b : Nat, flT g (a + b) st = flT (fun n st => g (a + n) st) b (flT g a st)
  | 0 => rfl
  | b + 1 => by
    show g (a + b) (flT g (a + b) st) = g (a + b) (flT (fun n st => g (a + n) st) b (flT g a st))
    rw [flT_ad b]
theorem flT_ml {g : Nat → StT → StT} {st : StT} {M : Nat} : ∀ T : Nat, flT (fun t st => flT (fun n st => g (t * M + n) st) M st) T st = flT g (T * M) st
  | 0 => by rw [Nat.zero_mul]; rfl
  | T + 1 => by
    show flT (fun n st => g (T * M + n) st) M (flT (fun t st => flT (fun n st => g (t * M + n) st) M st) T st) = _
    rw [flT_ml T, Nat.add_mul, Nat.one_mul, flT_ad]
theorem flT_one {f : Nat → StT → StT} {st : StT} {m : Nat} : ∀ n : Nat, m < n → (∀ i st, i < n → i ≠ m → f i st = st) → flT f n st = f m st
  | 0, h, _ => absurd h (Nat.not_lt_zero m)
  | n + 1, h, hf => by
    show f n (flT f n st) = f m st
    by_cases z : m = n
    · subst z
      rw [flT_id m (fun i hi => hf i st (by omega) (by omega))]
    · rw [hf n _ (by omega) (by omega), flT_one n (by omega) (fun i st hi hm => hf i st (by omega) hm)]
def tD (T e j : Nat) (tau : Int → Int) (n : Nat) : Int → Int := fun a => if (e : Int) ≤ a ∧ a < (e : Int) + j then ((n / T ^ (j - 1 - (a - e).toNat) % T : Nat) : Int) else tau a
theorem tD_s {T e j t n : Nat} {tau : Int → Int} (hT : 0 < T) (ht : t < T) (hn : n < T ^ j) : tD T (e + 1) j (upS tau e (t : Int)) n = tD T e (j + 1) tau (t * T ^ j + n) := by
  funext a
  unfold tD
  by_cases z : a = e
  · rw [z, if_neg (by omega), upS_same, if_pos (by omega), show j + 1 - 1 - ((e : Int) - e).toNat = j by omega]
    have e1 : (t * T ^ j + n) / T ^ j = t := by
      rw [Nat.mul_comm, Nat.mul_add_div (Nat.pow_pos hT), Nat.div_eq_of_lt hn]
      omega
    rw [e1, Nat.mod_eq_of_lt ht]
  · by_cases y : (e : Int) + 1 ≤ a ∧ a < (e : Int) + 1 + j
    · rw [if_pos (by omega), if_pos (by omega)]
      have e2 : j - 1 - (a - ((e + 1 : Nat) : Int)).toNat = j - (a - e).toNat := by omega
      have e3 : j + 1 - 1 - (a - e).toNat = j - (a - e).toNat := by omega
      rw [e2, e3]
      obtain ⟨q, hq⟩ : ∃ q, q = j - (a - e).toNat := ⟨_, rfl⟩
      obtain ⟨r, hr⟩ : ∃ r, r + 1 = (a - e).toNat := ⟨(a - e).toNat - 1, by omega⟩
      rw [← hq]
      have e4 : T ^ j = T ^ q * (T ^ r * T) := by rw [← Nat.pow_succ, ← Nat.pow_add, show q + (r + 1) = j by omega]
      have e5 : (t * T ^ j + n) / T ^ q = t * T ^ r * T + n / T ^ q := by
        rw [e4, show t * (T ^ q * (T ^ r * T)) = T ^ q * (t * T ^ r * T) by rw [Nat.mul_left_comm, Nat.mul_assoc t], Nat.mul_add_div (Nat.pow_pos hT)]
      rw [e5, Nat.mul_add_mod_self_right]
    · rw [if_neg (by omega), if_neg (by omega), upS_ne z]
theorem ful_D {S : Int → Int} {first : Int} (hT : 0 < (S 0).toNat) : ∀ (j e : Nat) (tau : Int → Int) (st : StT), ful S first j e tau st = flT (fun n st => updT S first (tD (S 0).toNat e j tau n) st) ((S 0).toNat ^ j) st
  | 0, e, tau, st => by
    show updT S first tau st = updT S first (tD (S 0).toNat e 0 tau 0) st
    congr 1
    funext a
    exact (if_neg (by omega)).symm
  | j + 1, e, tau, st => by
    rw [ful_s, flT_cg (g := fun t st => flT (fun n st => (fun N st => updT S first (tD (S 0).toNat e (j + 1) tau N) st) (t * (S 0).toNat ^ j + n) st) ((S 0).toNat ^ j) st) _ (fun t st ht => by
      rw [ful_D hT j (e + 1) (upS tau e (t : Int)) st]
      exact flT_cg _ (fun n st hn => by
        show updT S first (tD (S 0).toNat (e + 1) j (upS tau e (t : Int)) n) st = updT S first (tD (S 0).toNat e (j + 1) tau (t * (S 0).toNat ^ j + n)) st
        rw [tD_s hT ht hn])), flT_ml (g := fun N st => updT S first (tD (S 0).toNat e (j + 1) tau N) st) (M := (S 0).toNat ^ j) (S 0).toNat, Nat.pow_succ, Nat.mul_comm ((S 0).toNat ^ j)]
/-- the n-th try -/
def tL (S : Int → Int) (n : Nat) : Int → Int := tD (S 0).toNat 1 ((S 1).toNat - 1) (upS (fun _ => 0) 0 (S 14)) n
noncomputable def FO (S : Int → Int) (first : Int) (m : Nat) : StT := flT (fun n st => updT S first (tL S n) st) m (-1, fun _ => 0)
def nAll (S : Int → Int) : Nat := (S 0).toNat ^ ((S 1).toNat - 1)
theorem tL_0 {S : Int → Int} {n : Nat} : tL S n 0 = S 14 := by
  unfold tL tD
  rw [if_neg (by omega), upS_same]
theorem tL_bd {S : Int → Int} (h : Ok S) {n : Nat} (h1 : 0 < S 1) {a : Int} (a0 : 0 ≤ a) (a1 : a < S 1) : 0 ≤ tL S n a ∧ tL S n a < S 0 := by
  have hT := h.1
  by_cases z : a = 0
  · rw [z, tL_0]
    exact h.2.2.2.1 0 (by omega) h1
  · unfold tL tD
    rw [if_pos (by omega)]
    have := Nat.mod_lt (n / (S 0).toNat ^ ((S 1).toNat - 1 - 1 - (a - ((1 : Nat) : Int)).toNat)) (show 0 < (S 0).toNat by omega)
    omega
theorem val_kept {S tau : Int → Int} (h : Ok S) (h0 : tau 0 = S 14) : VAL S tau ↔ KEPT S tau := by
  refine ⟨VAL.kept h, fun hk e e0 e1 => ⟨fun _ => h0, fun a a0 a1 => ?_⟩⟩
  have := CONS.it h (CONS.lay h hk) (rdS S + 1) a e a0 (by omega) e0 e1
  exact this
theorem FO_s {S : Int → Int} {first : Int} {m : Nat} : FO S first (m + 1) = updT S first (tL S m) (FO S first m) := rfl
theorem FO_no {S : Int → Int} (h : Ok S) {first : Int} {m : Nat} (hk : ¬ KEPT S (tL S m)) : FO S first (m + 1) = FO S first m := by
  rw [FO_s]
  exact if_neg (fun z => hk ((val_kept h tL_0).mp z.1))
theorem FO_yes {S : Int → Int} (h : Ok S) {first : Int} {m : Nat} (hk : KEPT S (tL S m)) (hw : wnt first (FO S first m) (CT S (tL S m))) : FO S first (m + 1) = (CT S (tL S m), tL S m) := by
  rw [FO_s]
  exact if_pos ⟨(val_kept h tL_0).mpr hk, hw⟩
theorem FO_not {S : Int → Int} {first : Int} {m : Nat} (hw : ¬ wnt first (FO S first m) (CT S (tL S m))) : FO S first (m + 1) = FO S first m := by
  rw [FO_s]
  exact if_neg (fun z => hw z.2)
theorem goS_FO {S : Int → Int} (h : Ok S) (h1 : 0 < S 1) {first : Int} : goS S first = FO S first (nAll S) := by
  have hT := h.1
  by_cases z : emp (S 1) (tgS S)
  · have hg : goS S first = (-1, fun _ => 0) := if_pos z
    rw [hg]
    refine (flT_id (f := fun n st => updT S first (tL S n) st) (nAll S) (fun i _ => if_neg (fun y => ?_))).symm
    have hgd : GOOD S := ⟨tL S i, fun a a0 a1 => tL_bd h h1 a0 a1, fun _ => tL_0, VAL.kept h y.1⟩
    exact (goS_good h (first := first)).mpr hgd (by rw [hg])
  · have hg : goS S first = ful S first (S 1).toNat 0 (fun _ => 0) (-1, fun _ => 0) := if_neg z
    have h14 := h.2.2.2.1 0 (by omega) h1
    rw [show (14 : Int) + 0 = 14 from rfl] at h14
    obtain ⟨j, hj⟩ : ∃ j, (S 1).toNat = j + 1 := ⟨(S 1).toNat - 1, by omega⟩
    rw [hg, hj, ful_s, flT_one (m := (S 14).toNat) (S 0).toNat (by omega) (fun i st hi hm => ful_id _ _ _ (fun tau' g1 _ hv' _ => by
      have y0 := (hv' 0 (by omega) h1).1 rfl
      have y1 := g1 0 (by omega) (by omega)
      rw [show ((0 : Nat) : Int) = 0 from rfl, upS_same] at y1
      omega)), ful_D (by omega)]
    unfold FO nAll tL
    rw [hj, Nat.add_sub_cancel, show ((S 14).toNat : Int) = S 14 by omega]
    rfl
theorem CT_sum {S tau : Int → Int} (h : Ok S) : CT S tau = sumI (fun k => spC S tau k) (S 20).toNat := by
  have hE := h.2.1
  have e : ∀ n : Nat, cPar S tau n = sumI (fun a => cA S tau a) n := fun n => by
    induction n with
    | zero => rfl
    | succ n ih =>
      show cPar S tau n + cA S tau n = sumI (fun a => cA S tau a) n + cA S tau n
      rw [ih]
  unfold CT
  rw [e]
  have e2 := sumI_swap (g := fun a k => if max (frS S k) (toS S k) = a then spC S tau k else 0) (S 20).toNat (S 1).toNat
  have e3 : sumI (fun a => cA S tau a) (S 1).toNat = sumI (fun k => sumI (fun a => if max (frS S k) (toS S k) = a then spC S tau k else 0) (S 1).toNat) (S 20).toNat := e2
  rw [e3]
  refine sumI_cg _ (fun k k0 k1 => ?_)
  have z := h.2.2.2.2 k k0 (by omega)
  unfold SpOk at z
  have z1 : 0 ≤ frS S k ∧ frS S k < S 1 := z.1
  have z2 : 0 ≤ toS S k ∧ toS S k < S 1 := z.2.1
  have e4 : sumI (fun a => if max (frS S k) (toS S k) = a then spC S tau k else 0) (S 1).toNat = sumI (fun a => if a = max (frS S k) (toS S k) then spC S tau k else 0) (S 1).toNat := sumI_cg _ (fun a _ _ => by
    by_cases y : a = max (frS S k) (toS S k)
    · rw [if_pos y, if_pos y.symm]
    · rw [if_neg y, if_neg (fun w => y w.symm)])
  rw [e4, sumI_one, if_pos (by omega)]
theorem kept_of {S tau : Int → Int} : KEPT S tau ↔ ∀ k, 0 ≤ k → k < S 20 → slBy S k (tau (S (21 + 5 * k + 1)) - tau (S (21 + 5 * k + 0))) ≤ S (21 + 5 * k + 3) - S (21 + 5 * k + 2) := Iff.rfl
