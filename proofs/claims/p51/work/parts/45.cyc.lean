/-! 45: the tree of the spans: groups, and the ways to an event -/
abbrev frS (S : Int → Int) (k : Int) : Int := S (21 + 5 * k + 0)
abbrev toS (S : Int → Int) (k : Int) : Int := S (21 + 5 * k + 1)
def grp (S : Int → Int) : Nat → Int → Int
  | 0 => fun e => e
  | n + 1 => fun e => if grp S n e = grp S n (toS S n) then grp S n (frS S n) else grp S n e
abbrev tre (S : Int → Int) (k : Nat) : Prop := ¬ grp S k (frS S k) = grp S k (toS S k)
def cyN (S : Int → Int) : Nat → Int
  | 0 => 0
  | n + 1 => cyN S n + (if tre S n then 0 else 1)
def cloS (S : Int → Int) : Nat → Int → Int
  | 0 => fun _ => 0
  | n + 1 => if tre S n then cloS S n else upS (cloS S n) (cyN S n) n
theorem sumI_add {f g : Int → Int} : ∀ n : Nat, sumI (fun k => f k + g k) n = sumI f n + sumI g n
  | 0 => rfl
  | n + 1 => by
    have := sumI_add (f := f) (g := g) n
    show sumI (fun k => f k + g k) n + (f n + g n) = sumI f n + f n + (sumI g n + g n)
    omega
theorem sumI_congr {f g : Int → Int} : ∀ n : Nat, (∀ k : Int, 0 ≤ k → k < n → f k = g k) → sumI f n = sumI g n
  | 0, _ => rfl
  | n + 1, h => by
    have := sumI_congr n (fun k h0 h1 => h k h0 (by omega))
    have h2 := h n (by omega) (by omega)
    show sumI f n + f n = sumI g n + g n
    omega