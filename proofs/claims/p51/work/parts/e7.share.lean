/-! e7: the shares add up -/
theorem sumI_cg {f g : Int → Int} : ∀ n : Nat, (∀ j : Int, 0 ≤ j → j < n → f j = g j) → sumI f n = sumI g n
  | 0, _ => rfl
  | n + 1, h => by
    show sumI f n + f n = sumI g n + g n
    rw [sumI_cg n (fun j j0 j1 => h j j0 (by omega)), h n (by omega) (by omega)]
theorem sumI_ad {f g : Int → Int} : ∀ n : Nat, sumI (fun k => f k + g k) n = sumI f n + sumI g n
  | 0 => rfl
  | n + 1 => by
    show sumI (fun k => f k + g k) n + (f n + g n) = sumI f n + f n + (sumI g n + g n)
    rw [sumI_ad n]
    omega
theorem sumI_ml {f : Int → Int} {c : Int} : ∀ n : Nat, sumI (fun k => c * f k) n = c * sumI f n
  | 0 => (Int.mul_zero c).symm
  | n + 1 => by
    show sumI (fun k => c * f k) n + c * f n = c * (sumI f n + f n)
    rw [sumI_ml n, Int.mul_add]
def cn (P : Int → Prop) [DecidablePred P] (n : Nat) : Int := sumI (fun j => b2i (P j)) n
theorem cn_bd {P : Int → Prop} [DecidablePred P] {n : Nat} : 0 ≤ cn P n ∧ cn P n ≤ n := by
  have := sumI_bd (f := fun j => b2i (P j)) (c := 1) n (fun k _ _ => by
    have : b2i (P k) = 0 ∨ b2i (P k) = 1 := b2i_01
    omega)
  unfold cn
  omega
theorem cn_le {P Q : Int → Prop} [DecidablePred P] [DecidablePred Q] : ∀ n : Nat, (∀ j : Int, 0 ≤ j → j < n → P j → Q j) → cn P n ≤ cn Q n
  | 0, _ => Int.le_refl 0
  | n + 1, h => by
    have ih := cn_le n (fun j j0 j1 => h j j0 (by omega))
    show cn P n + b2i (P n) ≤ cn Q n + b2i (Q n)
    by_cases z : P n
    · rw [b2i_pos z, b2i_pos (h n (by omega) (by omega) z)]; omega
    · rw [b2i_neg z]
      have : b2i (Q (n : Int)) = 0 ∨ b2i (Q (n : Int)) = 1 := b2i_01
      omega
theorem cn_lt {P Q : Int → Prop} [DecidablePred P] [DecidablePred Q] {i : Int} : ∀ n : Nat, (∀ j : Int, 0 ≤ j → j < n → P j → Q j) → 0 ≤ i → i < n → Q i → ¬ P i → cn P n < cn Q n
  | 0, _, _, _, _, _ => by omega
  | n + 1, h, i0, i1, hq, hp => by
    show cn P n + b2i (P n) < cn Q n + b2i (Q n)
    by_cases z : i = n
    · subst z
      have ih := cn_le (P := P) (Q := Q) n (fun j j0 j1 => h j j0 (by omega))
      rw [b2i_pos hq, b2i_neg hp]
      omega
    · have ih := cn_lt (P := P) (Q := Q) n (fun j j0 j1 => h j j0 (by omega)) i0 (by omega) hq hp
      by_cases y : P n
      · rw [b2i_pos y, b2i_pos (h n (by omega) (by omega) y)]; omega
      · rw [b2i_neg y]
        have : b2i (Q (n : Int)) = 0 ∨ b2i (Q (n : Int)) = 1 := b2i_01
        omega
theorem rk_cnt {B : Int → Int → Prop} [∀ a b, Decidable (B a b)] (hi : ∀ a, ¬ B a a) (ht : ∀ a b c, B a b → B b c → B a c) (hto : ∀ a b, a ≠ b → B a b ∨ B b a) : ∀ (n : Nat) (L : Int), 0 ≤ L → L ≤ n → cn (fun s => cn (fun j => B j s) n < L) n = L
  | 0, L, h0, h1 => by
    show (0 : Int) = L
    omega
  | n + 1, L, h0, h1 => by
    obtain ⟨r, hr⟩ : ∃ r, r = cn (fun j => B j (n : Int)) n := ⟨_, rfl⟩
    have hr0 : 0 ≤ r ∧ r ≤ n := by rw [hr]; exact cn_bd
    have key : ∀ s : Int, 0 ≤ s → s < n → (cn (fun j => B j s) n < r ∧ cn (fun j => B j s) (n + 1) = cn (fun j => B j s) n) ∨ (r ≤ cn (fun j => B j s) n ∧ cn (fun j => B j s) (n + 1) = cn (fun j => B j s) n + 1) := fun s s0 s1 => by
      have e : cn (fun j => B j s) (n + 1) = cn (fun j => B j s) n + b2i (B (n : Int) s) := rfl
      rw [e]
      by_cases z : B s (n : Int)
      · left
        have hn : ¬ B (n : Int) s := fun y => hi _ (ht _ _ _ z y)
        rw [b2i_neg hn, hr]
        exact ⟨cn_lt n (fun j _ _ hj => ht _ _ _ hj z) s0 s1 z (hi s), by omega⟩
      · right
        have hn : B (n : Int) s := (hto s n (by omega)).resolve_left z
        rw [b2i_pos hn, hr]
        exact ⟨cn_le n (fun j _ _ hj => ht _ _ _ hj hn), rfl⟩
    have e2 : cn (fun j => B j (n : Int)) (n + 1) = r := by
      show cn (fun j => B j (n : Int)) n + b2i (B (n : Int) (n : Int)) = r
      rw [b2i_neg (hi _), ← hr]
      omega
    show sumI (fun s => b2i (cn (fun j => B j s) (n + 1) < L)) n + b2i (cn (fun j => B j (n : Int)) (n + 1) < L) = L
    rw [e2]
    by_cases z : r < L
    · have ih := rk_cnt hi ht hto n (L - 1) (by omega) (by omega)
      rw [b2i_pos z, sumI_cg (g := fun s => b2i (cn (fun j => B j s) n < L - 1)) n (fun s s0 s1 => by
        have k := key s s0 s1
        by_cases y : cn (fun j => B j s) n < L - 1
        · rw [b2i_pos y, b2i_pos (by omega)]
        · rw [b2i_neg y, b2i_neg (by omega)])]
      have ih' : sumI (fun s => b2i (cn (fun j => B j s) n < L - 1)) n = L - 1 := ih
      rw [ih']
      omega
    · have ih := rk_cnt hi ht hto n L (by omega) (by omega)
      rw [b2i_neg z, sumI_cg (g := fun s => b2i (cn (fun j => B j s) n < L)) n (fun s s0 s1 => by
        have k := key s s0 s1
        by_cases y : cn (fun j => B j s) n < L
        · rw [b2i_pos y, b2i_pos (by omega)]
        · rw [b2i_neg y, b2i_neg (by omega)])]
      have ih' : sumI (fun s => b2i (cn (fun j => B j s) n < L)) n = L := ih
      rw [ih']
      omega
theorem shC_cn {S : Int → Int} {n s : Int} : ∀ j : Nat, shC S n s j = cn (fun i => shB S n s i) j
  | 0 => rfl
  | j + 1 => by
    show shC S n s j + b2i (shB S n s (j : Int)) = cn (fun i => shB S n s i) j + b2i (shB S n s (j : Int))
    rw [shC_cn j]
theorem shL_sum {S : Int → Int} {n : Int} : ∀ j : Nat, shL S n j = n - sumI (fun k => (shP S n k).tdiv (wts S)) j
  | 0 => by show n = n - 0; omega
  | j + 1 => by
    show shL S n j - (shP S n (j : Int)).tdiv (wts S) = n - (sumI (fun k => (shP S n k).tdiv (wts S)) j + (shP S n (j : Int)).tdiv (wts S))
    rw [shL_sum j]
    omega
theorem sh_rem {S : Int → Int} {n : Int} : sumI (fun k => shR S n k) (S 20).toNat = wts S * shL S n (S 20).toNat := by
  have e1 : sumI (fun k => shP S n k) (S 20).toNat = n * wts S := sumI_ml (f := fun k => S (21 + 5 * k + 4)) (c := n) (S 20).toNat
  have e2 : sumI (fun k => shP S n k) (S 20).toNat = sumI (fun k => wts S * (shP S n k).tdiv (wts S) + shR S n k) (S 20).toNat := sumI_cg _ (fun j _ _ => (Int.mul_tdiv_add_tmod (shP S n j) (wts S)).symm)
  rw [sumI_ad (f := fun k => wts S * (shP S n k).tdiv (wts S)) (g := fun k => shR S n k), sumI_ml (f := fun k => (shP S n k).tdiv (wts S)), e1] at e2
  rw [shL_sum, Int.mul_sub, Int.mul_comm (wts S) n]
  omega
theorem sum_nz {f : Int → Int} {w : Int} : ∀ n : Nat, (∀ j : Int, 0 ≤ j → j < n → 0 ≤ f j ∧ f j ≤ w) → sumI f n ≤ w * cn (fun j => 0 < f j) n
  | 0, _ => by
    show (0 : Int) ≤ w * 0
    omega
  | n + 1, h => by
    have ih := sum_nz (f := f) (w := w) n (fun j j0 j1 => h j j0 (by omega))
    have hn := h n (by omega) (by omega)
    show sumI f n + f n ≤ w * (cn (fun j => 0 < f j) n + b2i (0 < f (n : Int)))
    rw [Int.mul_add]
    by_cases z : 0 < f (n : Int)
    · rw [b2i_pos z]; omega
    · rw [b2i_neg z]; omega
theorem sh_left {S : Int → Int} (h : Ok S) {n : Int} (hn : 0 ≤ n ∧ n ≤ 999) (hw : 0 < wts S) : 0 ≤ shL S n (S 20).toNat ∧ shL S n (S 20).toNat ≤ cn (fun j => 0 < shR S n j) (S 20).toNat := by
  have hN := h.2.2.1
  have hr : ∀ j : Int, 0 ≤ j → j < (S 20).toNat → 0 ≤ shR S n j ∧ shR S n j ≤ wts S - 1 := fun j j0 j1 => by
    have a := shP_bd h hn (k := j) ⟨j0, by omega⟩
    have e1 := Int.tmod_nonneg (wts S) a.1
    have e2 := Int.tmod_lt_of_pos (shP S n j) hw
    unfold shR
    omega
  have e := sh_rem (S := S) (n := n)
  have s1 := (sumI_bd (f := fun k => shR S n k) (c := wts S - 1) (S 20).toNat (fun j j0 j1 => hr j j0 j1)).1
  have s2 := sum_nz (f := fun k => shR S n k) (w := wts S - 1) (S 20).toNat hr
  rw [e] at s1 s2
  have c0 : 0 ≤ cn (fun j => 0 < shR S n j) (S 20).toNat := cn_bd.1
  refine ⟨?_, ?_⟩
  · refine Classical.byContradiction fun z => ?_
    have := Int.mul_le_mul_of_nonneg_left (show shL S n (S 20).toNat ≤ -1 by omega) (show 0 ≤ wts S by omega)
    omega
  · refine Classical.byContradiction fun z => ?_
    have e5 := Int.mul_le_mul_of_nonneg_left (show cn (fun j => 0 < shR S n j) (S 20).toNat + 1 ≤ shL S n (S 20).toNat by omega) (show 0 ≤ wts S by omega)
    rw [Int.mul_add] at e5
    rw [Int.sub_mul] at s2
    omega
theorem sh_0 {S : Int → Int} (h : Ok S) {n s : Int} (hn : 0 ≤ n ∧ n ≤ 999) (hw : 0 < wts S) (hs : shR S n s = 0) : ¬ shC S n s (S 20).toNat < shL S n (S 20).toNat := by
  have h1 := (sh_left h hn hw).2
  have h2 := cn_le (P := fun j => 0 < shR S n j) (Q := fun i => shB S n s i) (S 20).toNat (fun j _ _ hj => Or.inl (by rw [hs]; exact hj))
  rw [shC_cn]
  omega
theorem sh_sum {S : Int → Int} (h : Ok S) {n : Int} (hn : 0 ≤ n ∧ n ≤ 999) : sumI (fun k => shS S n k) (S 20).toNat = if wts S = 0 then 0 else n := by
  have hb := wts_bd h
  by_cases z : wts S = 0
  · rw [if_pos z, sumI_cg (g := fun _ => 0 * 0) _ (fun j _ _ => by unfold shS; rw [if_pos z]; rfl), sumI_ml (f := fun _ => 0)]
    omega
  · rw [if_neg z, sumI_cg (g := fun k => (shP S n k).tdiv (wts S) + b2i (shC S n k (S 20).toNat < shL S n (S 20).toNat)) _ (fun j _ _ => by unfold shS; rw [if_neg z]), sumI_ad (f := fun k => (shP S n k).tdiv (wts S)) (g := fun k => b2i (shC S n k (S 20).toNat < shL S n (S 20).toNat))]
    have hl := sh_left h hn (by omega)
    have hc : cn (fun j => 0 < shR S n j) (S 20).toNat ≤ ((S 20).toNat : Int) := cn_bd.2
    have e := rk_cnt (B := fun j s => shB S n s j) (fun a => by unfold shB; omega) (fun a b c => by unfold shB; omega) (fun a b hab => by unfold shB; omega) (S 20).toNat (shL S n (S 20).toNat) hl.1 (by omega)
    have e2 : sumI (fun k => b2i (shC S n k (S 20).toNat < shL S n (S 20).toNat)) (S 20).toNat = shL S n (S 20).toNat := by
      rw [sumI_cg (g := fun s => b2i (cn (fun j => shB S n s j) (S 20).toNat < shL S n (S 20).toNat)) _ (fun j _ _ => by rw [shC_cn])]
      exact e
    rw [e2, shL_sum]
    omega
