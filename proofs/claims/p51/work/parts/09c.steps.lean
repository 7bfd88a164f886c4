/-! 09c: the steps of the loops that lay a set -/
theorem turn_ix {T i m : Nat} (hi : i < T) (hm : m < T) : (T - m) % T = i ↔ m = (T - i) % T := by
  constructor
  · intro h
    rw [← h, mod_turn hm]
  · intro h
    rw [h, mod_turn hi]
theorem turn_no {T i : Nat} {x : Int} (hT : T ≤ 24) (hi : i < T) (hb : ¬ bit x i = true) : bOr (setI (fun m => turnP T x m && decide ((T - m) % T < i)) T) 0 = setI (fun m => turnP T x m && decide ((T - m) % T < i + 1)) T := by
  rw [setI_or0 hT]
  refine setI_congr hT (fun m hm => ?_)
  by_cases e : (T - m) % T = i
  · unfold turnP
    simp [e, hb]
  · have : (T - m) % T < i + 1 ↔ (T - m) % T < i := by omega
    simp [this]
theorem turn_yes {T i : Nat} {x : Int} (hT : T ≤ 24) (hi : i < T) (hb : bit x i = true) : bOr (setI (fun m => turnP T x m && decide ((T - m) % T < i)) T) (bShl 1 ((-(i : Int)) % (T : Int))) = setI (fun m => turnP T x m && decide ((T - m) % T < i + 1)) T := by
  rw [negmod hi, setI_or hT (Nat.mod_lt _ (by omega))]
  refine setI_congr hT (fun m hm => ?_)
  by_cases e : (T - m) % T = i
  · have e2 := (turn_ix hi hm).mp e
    show (bit x ((T - m) % T) && decide ((T - m) % T < i) || decide (m = (T - i) % T)) = (bit x ((T - m) % T) && decide ((T - m) % T < i + 1))
    rw [e, hb, decide_eq_true e2]
    simp
  · have e2 : ¬ m = (T - i) % T := fun z => e ((turn_ix hi hm).mpr z)
    have : (T - m) % T < i + 1 ↔ (T - m) % T < i := by omega
    simp [this, e2]
theorem upto_no {T i : Nat} {P : Nat → Bool} (hT : T ≤ 24) (hb : P i = false) : bOr (setI (fun m => decide (m < i) && P m) T) 0 = setI (fun m => decide (m < i + 1) && P m) T := by
  rw [setI_or0 hT]
  refine setI_congr hT (fun m hm => ?_)
  by_cases e : m = i
  · subst e
    simp [hb]
  · have : m < i + 1 ↔ m < i := by omega
    simp [this]
theorem upto_yes {T i : Nat} {P : Nat → Bool} (hT : T ≤ 24) (hi : i < T) (hb : P i = true) : bOr (setI (fun m => decide (m < i) && P m) T) (bShl 1 (i : Int)) = setI (fun m => decide (m < i + 1) && P m) T := by
  rw [setI_or hT hi]
  refine setI_congr hT (fun m hm => ?_)
  by_cases e : m = i
  · subst e
    simp [hb]
  · have : m < i + 1 ↔ m < i := by omega
    simp [this, e]
theorem setI_none {P : Nat → Bool} {n : Nat} (h : ∀ i, P i = false) : setI P n = 0 := by
  have : ∀ n, setN P n = 0 := by
    intro n
    induction n with
    | zero => rfl
    | succ n ih => show setN P n + (if P n then 2 ^ n else 0) = 0; rw [ih, h n]; rfl
  unfold setI
  rw [this]
  rfl
