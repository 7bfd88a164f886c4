/-! 09b: the sets of differences, as numbers -/
theorem bit_0 (i : Nat) : bit 0 i = false := by
  rw [bit_nat (by decide) (by decide)]
  exact Nat.zero_testBit i
theorem bit_1 (i : Nat) : bit 1 i = decide (i = 0) := by
  rw [bit_nat (by decide) (by decide)]
  show Nat.testBit 1 i = _
  cases i with
  | zero => rfl
  | succ i => rw [Nat.testBit_succ]; simp
theorem bit_one {r : Nat} (hr : r < 32) {i : Nat} (hi : i < 32) : bit (bShl 1 (r : Int)) i = decide (i = r) := by
  rw [bit_shl 1 hr, bit_1]
  by_cases e : i = r
  · subst e; simp [hi]
  · by_cases g : i < r
    · simp [g, e]
    · simp [hi, g, e]
      omega
theorem bOr_inR (x y : Int) : inR (bOr x y) := inR_toInt _
theorem bAnd_inR (x y : Int) : inR (bAnd x y) := inR_toInt _
theorem setI_or {P : Nat → Bool} {n r : Nat} (hn : n ≤ 24) (hr : r < n) : bOr (setI P n) (bShl 1 (r : Int)) = setI (fun m => P m || decide (m = r)) n := by
  refine setI_eq hn (bOr_inR _ _) (fun i hi => ?_)
  rw [bit_or, setI_bit hn, bit_one (by omega) hi]
  by_cases g : i < n
  · simp [g]
  · simp [g]
    omega
theorem setI_or0 {P : Nat → Bool} {n : Nat} (hn : n ≤ 24) : bOr (setI P n) 0 = setI P n := by
  refine setI_eq hn (bOr_inR _ _) (fun i hi => ?_)
  rw [bit_or, setI_bit hn, bit_0, Bool.or_false]
def allI (T : Nat) : Int := setI (fun _ => true) T
theorem setN_true : ∀ n, setN (fun _ => true) n + 1 = 2 ^ n
  | 0 => rfl
  | n + 1 => by
    have ih := setN_true n
    show setN (fun _ => true) n + (if true then 2 ^ n else 0) + 1 = 2 ^ (n + 1)
    rw [if_pos rfl, Nat.pow_succ]
    omega
theorem shl1 : ∀ n : Nat, n ≤ 24 → bShl 1 (n : Int) = ((2 ^ n : Nat) : Int) := by decide +kernel
theorem allI_eq {T : Nat} (h : T ≤ 24) : bShl 1 (T : Int) - 1 = allI T := by
  rw [shl1 T h]
  have := setN_true T
  unfold allI setI
  omega
theorem allI_bit {T : Nat} (h : T ≤ 24) (i : Nat) : bit (allI T) i = decide (i < T) := by
  unfold allI
  rw [setI_bit h, Bool.and_true]
/-- what lies below T -/
def Set24 (T : Nat) (x : Int) : Prop := (0 ≤ x ∧ x < 16777216) ∧ ∀ i, T ≤ i → bit x i = false
theorem setI_S {P : Nat → Bool} {n : Nat} (hn : n ≤ 24) : Set24 n (setI P n) := ⟨setI_bd hn, fun i hi => by rw [setI_bit hn]; simp [show ¬ i < n by omega]⟩
theorem Set24.ext {T : Nat} {x y : Int} (hx : Set24 T x) (hy : Set24 T y) (h : ∀ i, i < T → bit x i = bit y i) : x = y := by
  obtain ⟨⟨h0, h1⟩, h2⟩ := hx
  obtain ⟨⟨g0, g1⟩, g2⟩ := hy
  refine bit_ext (by unfold inR; omega) (by unfold inR; omega) (fun i hi => ?_)
  by_cases g : i < T
  · exact h i g
  · rw [h2 i (by omega), g2 i (by omega)]
theorem Set24.and {T : Nat} (hT : T ≤ 24) {x : Int} (h : Set24 T x) (y : Int) : Set24 T (bAnd x y) := by
  have e : bAnd x y = setI (fun i => bit x i && bit y i) T := by
    refine setI_eq hT (bAnd_inR _ _) (fun i hi => ?_)
    rw [bit_and]
    by_cases g : i < T
    · simp [g]
    · simp [g, h.2 i (by omega)]
  rw [e]
  exact setI_S hT
def turnP (T : Nat) (x : Int) (m : Nat) : Bool := bit x ((T - m) % T)
def turnI (T : Nat) (x : Int) : Int := setI (turnP T x) T
def sumsP (T : Nat) (x y : Int) (n m : Nat) : Bool := (List.range n).any fun a => bit x a && bit y ((m + T - a) % T)
def sumsI (T : Nat) (x y : Int) : Int := setI (sumsP T x y T) T
theorem sumsP_succ (T : Nat) (x y : Int) (n m : Nat) : sumsP T x y (n + 1) m = (sumsP T x y n m || (bit x n && bit y ((m + T - n) % T))) := by
  unfold sumsP
  rw [List.range_succ, List.any_append]
  simp
def keptI (S : Int → Int) (k : Int) : Int := setI (fun d => decide (kpBy S k (slBy S k (d : Int)))) (S 0).toNat
theorem turn_bit {T : Nat} (hT : T ≤ 24) (x : Int) (i : Nat) : bit (turnI T x) i = (decide (i < T) && bit x ((T - i) % T)) := by
  unfold turnI
  rw [setI_bit hT]
  rfl
theorem sums_bit {T : Nat} (hT : T ≤ 24) (x y : Int) (i : Nat) : bit (sumsI T x y) i = (decide (i < T) && sumsP T x y T i) := by
  unfold sumsI
  rw [setI_bit hT]
theorem mod_turn {T m : Nat} (h : m < T) : (T - (T - m) % T) % T = m := by
  by_cases e : m = 0
  · subst e
    simp
  · rw [Nat.mod_eq_of_lt (show T - m < T by omega), Nat.mod_eq_of_lt (by omega)]
    omega
theorem turn_turn {T : Nat} (hT : T ≤ 24) {x : Int} (h : Set24 T x) : turnI T (turnI T x) = x := by
  refine (setI_S hT).ext h (fun i hi => ?_)
  rw [setI_bit hT]
  unfold turnP
  rw [turn_bit hT, mod_turn hi]
  have : (T - i) % T < T := Nat.mod_lt _ (by omega)
  simp [hi, this]
/-- the machine's mod of the other way -/
theorem negmod {T i : Nat} (hi : i < T) : (-(i : Int)) % (T : Int) = (((T - i) % T : Nat) : Int) := by
  have e : (-(i : Int)) % (T : Int) = (-(i : Int) + (T : Int) * 1) % (T : Int) := (Int.add_mul_emod_self_left _ _ _).symm
  rw [e, show (-(i : Int) + (T : Int) * 1) = ((T - i : Nat) : Int) by omega]
  exact (Int.natCast_emod _ _).symm
