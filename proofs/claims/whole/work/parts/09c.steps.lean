/-! 09c: the steps of the loops that lay a set -/
theorem turn_ix {T i m : Nat} (hi : i < T) (hm : m < T) : (T - m) % T = i ↔ m = (T - i) % T := by
  constructor
  · intro h
    rw [← h, mod_turn hm]
  · intro h
    rw [h, mod_turn hi]
theorem turn_no {T i : Nat} {x : Int} (hT : T ≤ 24) (hi : i < T) (hb : ¬ bit x i = true) : bOr (setI (fun m => turnP T x m && decide ((T - m) % T < i)) T) 0 = setI (fun m => turnP T x m && decide ((T - m) % T < i + 1)) T := by
  rw [setI_or0 hT]
  refine setI_congr hT (fun m hm => ?_)
  by_cases e : (T - m) % T = i
  · unfold turnP
    simp [e, hb]
  · have : (T - m) % T < i + 1 ↔ (T - m) % T < i := by omega
    simp [this]
theorem turn_yes {T i : Nat} {x : Int} (hT : T ≤ 24) (hi : i < T) (hb : bit x i = true) : bOr (setI (fun m => turnP T x m && decide ((T - m) % T < i)) T) (bShl 1 ((-(i : Int)) % (T : Int))) = setI (fun m => turnP T x m && decide ((T - m) % T < i + 1)) T := by
  rw [negmod hi, setI_or hT (Nat.mod_lt _ (by omega))]
  refine setI_congr hT (fun m hm => ?_)
  by_cases e : (T - m) % T = i
  · have e2 := (turn_ix hi hm).mp e
    show (bit x ((T - m) % T) && decide ((T - m) % T < i) || decide (m = (T - i) % T)) = (bit x ((T - m) % T) && decide ((T - m) % T < i + 1))
    rw [e, hb, decide_eq_true e2]
    simp
  · have e2 : ¬ m = (T - i) % T := fun z => e ((turn_ix hi hm).mpr z)
    have : (T - m) % T < i + 1 ↔ (T - m) % T < i := by omega
    simp [this, e2]
theorem upto_no {T i : Nat} {P : Nat → Bool} (hT : T ≤ 24) (hb : P i = false) : bOr (setI (fun m => decide (m < i) && P m) T) 0 = setI (fun m => decide (m < i + 1) && P m) T := by
  rw [setI_or0 hT]
  refine setI_congr hT (fun m hm => ?_)
  by_cases e : m = i
  · subst e
    simp [hb]
  · have : m < i + 1 ↔ m < i := by omega
    simp [this]
theorem upto_yes {T i : Nat} {P : Nat → Bool} (hT : T ≤ 24) (hi : i < T) (hb : P i = true) : bOr (setI (fun m => decide (m < i) && P m) T) (bShl 1 (i : Int)) = setI (fun m => decide (m < i + 1) && P m) T := by
  rw [setI_or hT hi]
  refine setI_congr hT (fun m hm => ?_)
  by_cases e : m = i
  · subst e
    simp [hb]
  · have : m < i + 1 ↔ m < i := by omega
    simp [this, e]
/-- the inner loop of the reference's sums: k of the second set's are done -/
def sumsQ (T : Nat) (x y : Int) (i k m : Nat) : Bool := sumsP T x y i m || (List.range k).any fun a => bit y a && decide ((i + a) % T = m)
theorem sumsQ_0 (T : Nat) (x y : Int) (i m : Nat) : sumsQ T x y i 0 m = sumsP T x y i m := by
  unfold sumsQ
  simp
theorem sumsQ_succ (T : Nat) (x y : Int) (i k m : Nat) : sumsQ T x y i (k + 1) m = (sumsQ T x y i k m || (bit y k && decide ((i + k) % T = m))) := by
  unfold sumsQ
  rw [List.range_succ, List.any_append, Bool.or_assoc]
  simp
theorem sumsQ_no {T i k : Nat} {x y : Int} (hT : T ≤ 24) (hb : ¬ bit y k = true) : bOr (setI (sumsQ T x y i k) T) 0 = setI (sumsQ T x y i (k + 1)) T := by
  rw [setI_or0 hT]
  refine setI_congr hT (fun m hm => ?_)
  rw [sumsQ_succ]
  simp [hb]
theorem sumsQ_yes {T i k : Nat} {x y : Int} (hT : T ≤ 24) (h0 : 0 < T) (hb : bit y k = true) : bOr (setI (sumsQ T x y i k) T) (bShl 1 (((i : Int) + (k : Int)) % (T : Int))) = setI (sumsQ T x y i (k + 1)) T := by
  rw [show ((i : Int) + (k : Int)) % (T : Int) = (((i + k) % T : Nat) : Int) from (Int.natCast_emod _ _).symm, setI_or hT (Nat.mod_lt _ h0)]
  refine setI_congr hT (fun m hm => ?_)
  rw [sumsQ_succ]
  simp only [hb, Bool.true_and]
  congr 1
  exact decide_eq_decide.mpr ⟨fun z => z.symm, fun z => z.symm⟩
theorem sumsQ_end {T i : Nat} {x y : Int} (hT : T ≤ 24) (hi : i < T) (hb : bit x i = true) : setI (sumsQ T x y i T) T = setI (sumsP T x y (i + 1)) T := by
  refine setI_congr hT (fun m hm => ?_)
  rw [sumsP_succ]
  unfold sumsQ
  congr 1
  rw [hb, Bool.true_and]
  have key : ∀ a, a < T → ((i + a) % T = m ↔ a = (m + T - i) % T) := by
    intro a ha
    constructor
    · intro h
      by_cases g : i + a < T
      · rw [Nat.mod_eq_of_lt g] at h
        rw [show m + T - i = a + T by omega, Nat.add_mod_right, Nat.mod_eq_of_lt ha]
      · rw [show i + a = (i + a - T) + T by omega, Nat.add_mod_right, Nat.mod_eq_of_lt (by omega)] at h
        rw [Nat.mod_eq_of_lt (by omega)]
        omega
    · intro h
      by_cases g : i ≤ m
      · rw [show m + T - i = (m - i) + T by omega, Nat.add_mod_right, Nat.mod_eq_of_lt (by omega)] at h
        rw [Nat.mod_eq_of_lt (by omega)]
        omega
      · rw [Nat.mod_eq_of_lt (show m + T - i < T by omega)] at h
        rw [show i + a = m + T by omega, Nat.add_mod_right, Nat.mod_eq_of_lt hm]
  have hlt : (m + T - i) % T < T := Nat.mod_lt _ (by omega)
  cases hv : bit y ((m + T - i) % T) with
  | true =>
    rw [List.any_eq_true]
    exact ⟨(m + T - i) % T, List.mem_range.mpr hlt, by simp [hv, (key _ hlt).mpr rfl]⟩
  | false =>
    rw [List.any_eq_false]
    intro a ha
    have ha' := List.mem_range.mp ha
    by_cases e : (i + a) % T = m
    · have := (key a ha').mp e
      subst this
      simp [hv]
    · simp [e]
theorem sumsP_no {T i : Nat} {x y : Int} (hT : T ≤ 24) (hb : ¬ bit x i = true) : setI (sumsP T x y i) T = setI (sumsP T x y (i + 1)) T := by
  refine setI_congr hT (fun m hm => ?_)
  rw [sumsP_succ]
  simp [hb]
theorem setI_none {P : Nat → Bool} {n : Nat} (h : ∀ i, P i = false) : setI P n = 0 := by
  have : ∀ n, setN P n = 0 := by
    intro n
    induction n with
    | zero => rfl
    | succ n ih => show setN P n + (if P n then 2 ^ n else 0) = 0; rw [ih, h n]; rfl
  unfold setI
  rw [this]
  rfl
