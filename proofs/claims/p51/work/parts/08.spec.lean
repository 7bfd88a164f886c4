/-! 08: what is told, in plain functions of the reference's row S (91 numbers) -/
theorem tmod_neg {a T : Int} (hT : 0 < T) (h : a.tmod T < 0) : a.tmod T + T = a % T := by
  have h1 := Int.mul_tdiv_add_tmod a T
  have h2 : (a.tmod T + T) % T = a % T := by
    have e : a = (a.tmod T + T) + T * (a.tdiv T - 1) := by rw [Int.mul_sub, Int.mul_one]; omega
    have e2 := Int.add_mul_emod_self_left (a.tmod T + T) T (a.tdiv T - 1)
    rw [← e] at e2
    exact e2.symm
  have h3 := Int.lt_tmod_of_pos a hT
  rw [← h2]
  exact (Int.emod_eq_of_lt (by omega) (by omega)).symm
theorem tmod_pos {a T : Int} (hT : 0 < T) (h : 0 ≤ a.tmod T) : a.tmod T = a % T := by
  have h1 := Int.mul_tdiv_add_tmod a T
  have h2 : (a.tmod T) % T = a % T := by
    have e : a = a.tmod T + T * (a.tdiv T) := by omega
    have e2 := Int.add_mul_emod_self_left (a.tmod T) T (a.tdiv T)
    rw [← e] at e2
    exact e2.symm
  have h3 := Int.tmod_lt_of_pos a hT
  rw [← h2]
  exact (Int.emod_eq_of_lt h h3).symm
def slBy (S : Int → Int) (k d : Int) : Int := (d - S (21 + 5 * k + 2)) % S 0
def slOf (S : Int → Int) (k : Int) : Int := slBy S k (S (14 + S (21 + 5 * k + 1)) - S (14 + S (21 + 5 * k + 0)))
abbrev kpBy (S : Int → Int) (k s : Int) : Prop := s ≤ S (21 + 5 * k + 3) - S (21 + 5 * k + 2)
abbrev kept (S : Int → Int) (k : Int) : Prop := kpBy S k (slOf S k)
def sumI (f : Int → Int) : Nat → Int
  | 0 => 0
  | n + 1 => sumI f n + f n
def brk (S : Int → Int) : Int := sumI (fun k => if kept S k then 0 else 1) (S 20).toNat
def cst (S : Int → Int) : Int := sumI (fun k => S (21 + 5 * k + 4) * slOf S k) (S 20).toNat
def wts (S : Int → Int) : Int := sumI (fun k => S (21 + 5 * k + 4)) (S 20).toNat
theorem sumI_bd {f : Int → Int} {c : Int} : ∀ (n : Nat), (∀ k : Int, 0 ≤ k → k < n → 0 ≤ f k ∧ f k ≤ c) → 0 ≤ sumI f n ∧ sumI f n ≤ n * c
  | 0, _ => by simp [sumI]
  | n + 1, h => by
    have h1 := sumI_bd n (fun k h0 h1 => h k h0 (by omega))
    have h2 := h n (by omega) (by omega)
    show 0 ≤ sumI f n + f n ∧ sumI f n + f n ≤ ((n + 1 : Nat) : Int) * c
    have e : ((n + 1 : Nat) : Int) * c = n * c + c := by rw [Int.natCast_add, Int.add_mul]; simp
    omega
/-- a span in order -/
def SpOk (S : Int → Int) (k : Int) : Prop := (0 ≤ S (21 + 5 * k + 0) ∧ S (21 + 5 * k + 0) < S 1) ∧ (0 ≤ S (21 + 5 * k + 1) ∧ S (21 + 5 * k + 1) < S 1) ∧ S (21 + 5 * k + 0) ≠ S (21 + 5 * k + 1) ∧ (0 ≤ S (21 + 5 * k + 2) ∧ S (21 + 5 * k + 2) ≤ S (21 + 5 * k + 3)) ∧ (S (21 + 5 * k + 3) ≤ 71 ∧ S (21 + 5 * k + 3) ≤ S (21 + 5 * k + 2) + S 0 - 1) ∧ (0 ≤ S (21 + 5 * k + 4) ∧ S (21 + 5 * k + 4) ≤ 20)
/-- a row in order -/
def Ok (S : Int → Int) : Prop := (2 ≤ S 0 ∧ S 0 ≤ 24) ∧ (0 ≤ S 1 ∧ S 1 ≤ 6) ∧ (0 ≤ S 20 ∧ S 20 ≤ 14) ∧ (∀ e, 0 ≤ e → e < S 1 → 0 ≤ S (14 + e) ∧ S (14 + e) < S 0) ∧ ∀ k, 0 ≤ k → k < S 20 → SpOk S k
theorem slBy_bd {S : Int → Int} (h : Ok S) (k d : Int) : 0 ≤ slBy S k d ∧ slBy S k d ≤ 23 := by
  have h0 := h.1
  have h1 := Int.emod_nonneg (d - S (21 + 5 * k + 2)) (show S 0 ≠ 0 by omega)
  have h2 := Int.emod_lt_of_pos (d - S (21 + 5 * k + 2)) (show 0 < S 0 by omega)
  unfold slBy
  omega
theorem slOf_bd {S : Int → Int} (h : Ok S) (k : Int) : 0 ≤ slOf S k ∧ slOf S k ≤ 23 := slBy_bd h k _
theorem upd_upd {M : Id4 → Int → Int} {q : Id4} {k v w : Int} : updM (updM M q k v) q k w = updM M q k w := by
  funext q' k'
  unfold updM
  split <;> rfl
theorem upd_same {M : Id4 → Int → Int} {q : Id4} {k v : Int} : updM M q k v q k = v := if_pos ⟨rfl, rfl⟩
theorem upd_ne {M : Id4 → Int → Int} {q q' : Id4} {k k' v : Int} (h : q' ≠ q ∨ k' ≠ k) : updM M q k v q' k' = M q' k' := if_neg (fun z => h.elim (fun a => a z.1) (fun a => a z.2))
theorem b2i_0 {c : Prop} [Decidable c] : b2i c = 0 ↔ ¬ c := by
  constructor
  · intro h z
    rw [b2i_pos z] at h
    exact absurd h (by decide)
  · exact b2i_neg
