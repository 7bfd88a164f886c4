/-! 45: the tree of the spans: groups, and the ways to an event -/
abbrev frS (S : Int → Int) (k : Int) : Int := S (21 + 5 * k + 0)
abbrev toS (S : Int → Int) (k : Int) : Int := S (21 + 5 * k + 1)
def grp (S : Int → Int) : Nat → Int → Int
  | 0 => fun e => e
  | n + 1 => fun e => if grp S n e = grp S n (toS S n) then grp S n (frS S n) else grp S n e
abbrev tre (S : Int → Int) (k : Nat) : Prop := ¬ grp S k (frS S k) = grp S k (toS S k)
def cyN (S : Int → Int) : Nat → Int
  | 0 => 0
  | n + 1 => cyN S n + (if tre S n then 0 else 1)
def cloS (S : Int → Int) : Nat → Int → Int
  | 0 => fun _ => 0
  | n + 1 => if tre S n then cloS S n else upS (cloS S n) (cyN S n) n
theorem cyN_bd {S : Int → Int} : ∀ n : Nat, 0 ≤ cyN S n ∧ cyN S n ≤ n
  | 0 => by unfold cyN; omega
  | n + 1 => by
    have := cyN_bd (S := S) n
    unfold cyN
    split <;> omega
theorem cloS_bd {S : Int → Int} : ∀ n : Nat, ∀ c, 0 ≤ c → c < cyN S n → 0 ≤ cloS S n c ∧ cloS S n c < n
  | 0, c, h0, h1 => by unfold cyN at h1; omega
  | n + 1, c, h0, h1 => by
    unfold cyN at h1
    unfold cloS
    by_cases t : tre S n
    · rw [if_pos t] at h1 ⊢
      have := cloS_bd (S := S) n c h0 (by omega)
      omega
    · rw [if_neg t] at h1 ⊢
      by_cases e : c = cyN S n
      · rw [e, upS_same]; omega
      · rw [upS_ne e]
        have := cloS_bd (S := S) n c h0 (by omega)
        omega
theorem grp_s {S : Int → Int} {n : Nat} {e : Int} : grp S (n + 1) e = if grp S n e = grp S n (toS S n) then grp S n (frS S n) else grp S n e := rfl
theorem grp_mono {S : Int → Int} {u v : Int} {m : Nat} : ∀ n : Nat, m ≤ n → grp S m u = grp S m v → grp S n u = grp S n v
  | 0, hm, h => by
    obtain rfl : m = 0 := by omega
    exact h
  | n + 1, hm, h => by
    by_cases e : m = n + 1
    · subst e; exact h
    · have ih := grp_mono n (by omega) h
      rw [grp_s, grp_s, ih]
theorem grp_span {S : Int → Int} {k n : Nat} (h : k < n) : grp S n (frS S k) = grp S n (toS S k) := by
  refine grp_mono (m := k + 1) n (by omega) ?_
  rw [grp_s, grp_s, if_pos (rfl : grp S k (toS S k) = grp S k (toS S k))]
  split <;> rfl
theorem sumI_add {f g : Int → Int} : ∀ n : Nat, sumI (fun k => f k + g k) n = sumI f n + sumI g n
  | 0 => rfl
  | n + 1 => by
    have := sumI_add (f := f) (g := g) n
    show sumI (fun k => f k + g k) n + (f n + g n) = sumI f n + f n + (sumI g n + g n)
    omega
theorem sumI_congr {f g : Int → Int} : ∀ n : Nat, (∀ k : Int, 0 ≤ k → k < n → f k = g k) → sumI f n = sumI g n
  | 0, _ => rfl
  | n + 1, h => by
    have := sumI_congr n (fun k h0 h1 => h k h0 (by omega))
    have h2 := h n (by omega) (by omega)
    show sumI f n + f n = sumI g n + g n
    omega
theorem sumI_pos {f : Int → Int} : ∀ n : Nat, (∀ k : Int, 0 ≤ k → k < n → 0 ≤ f k) → ∀ g : Int, 0 ≤ g → g < n → 1 ≤ f g → 1 ≤ sumI f n
  | 0, _, g, h0, h1, _ => by omega
  | n + 1, h, g, h0, h1, h2 => by
    have nn : 0 ≤ sumI f n := by
      have : ∀ m : Nat, m ≤ n → 0 ≤ sumI f m := fun m => by
        induction m with
        | zero => intro _; exact Int.le_refl _
        | succ m ih =>
          intro hm
          have := ih (by omega)
          have := h m (by omega) (by omega)
          show 0 ≤ sumI f m + f m
          omega
      exact this n (Nat.le_refl _)
    show 1 ≤ sumI f n + f n
    by_cases e : g = n
    · rw [e] at h2; omega
    · have := sumI_pos n (fun k q0 q1 => h k q0 (by omega)) g h0 (by omega) h2
      have := h n (by omega) (by omega)
      omega
/-- the ways W towards g and the distances d, over the tree spans among the first n -/
def PS (S : Int → Int) (n : Nat) (g : Int) (W : Int → Int) (d : Int → Nat) : Prop := (W g = -2 ∧ d g = 0) ∧ ∀ v, 0 ≤ v → v < S 1 → v ≠ g → W v ≠ -1 → ∃ k : Nat, W v = k ∧ k < n ∧ tre S k ∧ ∃ u, ((frS S k = v ∧ toS S k = u) ∨ (toS S k = v ∧ frS S k = u)) ∧ W u ≠ -1 ∧ d v = d u + 1
def cntW (S : Int → Int) (W : Int → Int) : Int := sumI (fun e => if W e = -1 then 0 else 1) (S 1).toNat
def RS (S : Int → Int) (n : Nat) (g : Int) (W : Int → Int) (d : Int → Nat) : Prop := PS S n g W d ∧ (∀ k : Nat, k < n → tre S k → (W (frS S k) = -1 ∧ W (toS S k) = -1) ∨ W (frS S k) = k ∨ W (toS S k) = k) ∧ (∀ v, 0 ≤ v → v < S 1 → (W v ≠ -1 ↔ grp S n v = grp S n g)) ∧ ∀ v, 0 ≤ v → v < S 1 → W v ≠ -1 → (d v : Int) < cntW S W
theorem ends_in {S : Int → Int} (h : Ok S) {k : Nat} (hk : (k : Int) < S 20) {u v : Int} (e : (frS S k = v ∧ toS S k = u) ∨ (toS S k = v ∧ frS S k = u)) : (0 ≤ u ∧ u < S 1) ∧ (0 ≤ v ∧ v < S 1) ∧ u ≠ v := by
  have s := h.2.2.2.2 k (by omega) hk
  unfold SpOk at s
  unfold frS toS at e
  omega
theorem rs_join {S : Int → Int} (h : Ok S) {n : Nat} (hn : (n : Int) < S 20) (ht : tre S n) {g x y : Int} (hg : 0 ≤ g ∧ g < S 1) (e : (frS S n = y ∧ toS S n = x) ∨ (toS S n = y ∧ frS S n = x)) (hgx : grp S n g = grp S n x) {W1 W2 : Int → Int} {d1 d2 : Int → Nat} (r1 : RS S n g W1 d1) (r2 : RS S n y W2 d2) : ∃ W d, RS S (n + 1) g W d := by
  obtain ⟨hx, hy, hxy⟩ := ends_in h hn e
  have hne : grp S n x ≠ grp S n y := by
    rcases e with ⟨e1, e2⟩ | ⟨e1, e2⟩
    · intro z; apply ht; rw [e1, e2, z]
    · intro z; apply ht; rw [e1, e2, z]
  have hgy : grp S n g ≠ grp S n y := by rw [hgx]; exact hne
  obtain ⟨⟨⟨a1, a2⟩, a3⟩, a4, a5, a6⟩ := r1
  obtain ⟨⟨⟨b1, b2⟩, b3⟩, b4, b5, b6⟩ := r2
  obtain ⟨W, hW⟩ : ∃ W : Int → Int, W = fun v => if grp S n v = grp S n y then (if v = y then (n : Int) else W2 v) else W1 v := ⟨_, rfl⟩
  obtain ⟨d, hd⟩ : ∃ d : Int → Nat, d = fun v => if grp S n v = grp S n y then d1 x + 1 + d2 v else d1 v := ⟨_, rfl⟩
  have Wy : W y = n := by rw [hW]; dsimp only; rw [if_pos rfl, if_pos rfl]
  have Win : ∀ v, grp S n v = grp S n y → v ≠ y → W v = W2 v := fun v q1 q2 => by rw [hW]; dsimp only; rw [if_pos q1, if_neg q2]
  have Wout : ∀ v, ¬ grp S n v = grp S n y → W v = W1 v := fun v q1 => by rw [hW]; dsimp only; rw [if_neg q1]
  have din : ∀ v, grp S n v = grp S n y → d v = d1 x + 1 + d2 v := fun v q1 => by rw [hd]; dsimp only; rw [if_pos q1]
  have dout : ∀ v, ¬ grp S n v = grp S n y → d v = d1 v := fun v q1 => by rw [hd]; dsimp only; rw [if_neg q1]
  have Wne : ∀ v, 0 ≤ v → v < S 1 → grp S n v = grp S n y → W v ≠ -1 := fun v v0 v1 q => by
    by_cases z : v = y
    · rw [z, Wy]; omega
    · rw [Win v q z]; exact (b5 v v0 v1).mpr q
  have G : ∀ v, grp S (n + 1) v = grp S (n + 1) g ↔ (grp S n v = grp S n y ∨ grp S n v = grp S n x) := fun v => by
    rcases e with ⟨e1, e2⟩ | ⟨e1, e2⟩
    · rw [grp_s, grp_s, e1, e2, if_pos hgx]
      by_cases z : grp S n v = grp S n x
      · rw [if_pos z]; exact ⟨fun _ => Or.inr z, fun _ => rfl⟩
      · rw [if_neg z]; exact ⟨Or.inl, fun q => q.resolve_right z⟩
    · rw [grp_s, grp_s, e1, e2, if_neg hgy, hgx]
      by_cases z : grp S n v = grp S n y
      · rw [if_pos z]; exact ⟨fun _ => Or.inl z, fun _ => rfl⟩
      · rw [if_neg z]; exact ⟨Or.inr, fun q => q.resolve_left z⟩
  have cnt : cntW S W = cntW S W1 + cntW S W2 := by
    unfold cntW
    rw [← sumI_add]
    refine sumI_congr _ (fun k k0 k1 => ?_)
    have hE := h.2.1
    have k2 : k < S 1 := by omega
    by_cases z : grp S n k = grp S n y
    · have w1 : W1 k = -1 := Classical.byContradiction fun q => hgy (((a5 k k0 k2).mp q).symm.trans z)
      rw [if_neg (Wne k k0 k2 z), if_pos w1, if_neg ((b5 k k0 k2).mpr z)]
      rfl
    · have w2 : W2 k = -1 := Classical.byContradiction fun q => z ((b5 k k0 k2).mp q)
      rw [Wout k z, if_pos w2]
      omega
  have W1x : W1 x ≠ -1 := (a5 x hx.1 hx.2).mpr hgx.symm
  refine ⟨W, d, ⟨⟨?_, ?_⟩, ?_⟩, ?_, ?_, ?_⟩
  · rw [Wout g hgy]; exact a1
  · rw [dout g hgy]; exact a2
  · intro v v0 v1 vg vW
    by_cases z : grp S n v = grp S n y
    · by_cases vy : v = y
      · subst vy
        refine ⟨n, Wy, by omega, ht, x, ?_, ?_, ?_⟩
        · rcases e with e | e
          · exact Or.inl e
          · exact Or.inr e
        · rw [Wout x hne]; exact W1x
        · rw [din v rfl, b2, dout x hne]
      · rw [Win v z vy] at vW
        obtain ⟨k, q1, q2, q3, u, q4, q5, q6⟩ := b3 v v0 v1 vy vW
        obtain ⟨u0, -, -⟩ := ends_in h (show (k : Int) < S 20 by omega) q4
        have uy := (b5 u u0.1 u0.2).mp q5
        exact ⟨k, by rw [Win v z vy]; exact q1, by omega, q3, u, q4, Wne u u0.1 u0.2 uy, by rw [din v z, din u uy]; omega⟩
    · rw [Wout v z] at vW
      obtain ⟨k, q1, q2, q3, u, q4, q5, q6⟩ := a3 v v0 v1 vg vW
      obtain ⟨u0, -, -⟩ := ends_in h (show (k : Int) < S 20 by omega) q4
      have ug : ¬ grp S n u = grp S n y := by rw [(a5 u u0.1 u0.2).mp q5]; exact hgy
      exact ⟨k, by rw [Wout v z]; exact q1, by omega, q3, u, q4, by rw [Wout u ug]; exact q5, by rw [dout v z, dout u ug]; exact q6⟩
  · intro k k1 kt
    by_cases z : k = n
    · subst z
      rcases e with ⟨e1, e2⟩ | ⟨e1, e2⟩
      · exact Or.inr (Or.inl (by rw [e1]; exact Wy))
      · exact Or.inr (Or.inr (by rw [e1]; exact Wy))
    · have k2 : k < n := by omega
      have gs := grp_span (S := S) k2
      obtain ⟨f0, t0, -⟩ := ends_in h (show (k : Int) < S 20 by omega) (Or.inr ⟨rfl, rfl⟩ : (frS S k = toS S k ∧ toS S k = frS S k) ∨ (toS S k = toS S k ∧ frS S k = frS S k))
      by_cases q : grp S n (frS S k) = grp S n y
      · have q' : grp S n (toS S k) = grp S n y := gs ▸ q
        rcases b4 k k2 kt with y1 | y1 | y1
        · exact absurd y1.1 ((b5 _ f0.1 f0.2).mpr q)
        · have : frS S k ≠ y := fun w => by rw [w, b1] at y1; omega
          exact Or.inr (Or.inl (by rw [Win _ q this]; exact y1))
        · have : toS S k ≠ y := fun w => by rw [w, b1] at y1; omega
          exact Or.inr (Or.inr (by rw [Win _ q' this]; exact y1))
      · have q' : ¬ grp S n (toS S k) = grp S n y := gs ▸ q
        rw [Wout _ q, Wout _ q']
        exact a4 k k2 kt
  · intro v v0 v1
    rw [G v]
    by_cases z : grp S n v = grp S n y
    · exact ⟨fun _ => Or.inl z, fun _ => Wne v v0 v1 z⟩
    · rw [Wout v z, a5 v v0 v1, hgx]
      exact ⟨Or.inr, fun q => q.resolve_left z⟩
  · intro v v0 v1 vW
    rw [cnt]
    by_cases z : grp S n v = grp S n y
    · have p1 := a6 x hx.1 hx.2 W1x
      have p2 := b6 v v0 v1 ((b5 v v0 v1).mpr z)
      rw [din v z]
      omega
    · rw [Wout v z] at vW
      have p1 := a6 v v0 v1 vW
      have p2 := b6 y hy.1 hy.2 ((b5 y hy.1 hy.2).mpr rfl)
      rw [dout v z]
      omega
theorem rs_ex {S : Int → Int} (h : Ok S) : ∀ n : Nat, (n : Int) ≤ S 20 → ∀ g, 0 ≤ g → g < S 1 → ∃ W d, RS S n g W d := by
  intro n
  induction n with
  | zero =>
    intro _ g g0 g1
    have hE := h.2.1
    refine ⟨fun v => if v = g then -2 else -1, fun _ => 0, ⟨⟨if_pos rfl, rfl⟩, fun v _ _ vg vW => absurd (if_neg vg) vW⟩, fun k hk => absurd hk (by omega), fun v _ _ => ?_, fun v _ _ _ => ?_⟩
    · show ((if v = g then (-2 : Int) else -1) ≠ -1) ↔ v = g
      by_cases z : v = g
      · rw [if_pos z]; exact ⟨fun _ => z, fun _ => by decide⟩
      · rw [if_neg z]; exact ⟨fun q => absurd rfl q, fun q => absurd q z⟩
    · have := sumI_pos (f := fun e => if (if e = g then (-2 : Int) else -1) = -1 then 0 else 1) (S 1).toNat (fun k _ _ => by split <;> omega) g g0 (by omega) (by rw [if_pos rfl]; decide)
      show ((0 : Nat) : Int) < sumI (fun e => if (if e = g then (-2 : Int) else -1) = -1 then 0 else 1) (S 1).toNat
      omega
  | succ n ih =>
    intro hn g g0 g1
    have hn' : (n : Int) < S 20 := by omega
    by_cases ht : tre S n
    · obtain ⟨hb, ha, -⟩ := ends_in h hn' (Or.inl ⟨rfl, rfl⟩ : (frS S n = frS S n ∧ toS S n = toS S n) ∨ _)
      by_cases ga : grp S n g = grp S n (frS S n)
      · obtain ⟨W1, d1, r1⟩ := ih (by omega) g g0 g1
        obtain ⟨W2, d2, r2⟩ := ih (by omega) (toS S n) hb.1 hb.2
        exact rs_join h hn' ht ⟨g0, g1⟩ (x := frS S n) (y := toS S n) (Or.inr ⟨rfl, rfl⟩) ga r1 r2
      · by_cases gb : grp S n g = grp S n (toS S n)
        · obtain ⟨W1, d1, r1⟩ := ih (by omega) g g0 g1
          obtain ⟨W2, d2, r2⟩ := ih (by omega) (frS S n) ha.1 ha.2
          exact rs_join h hn' ht ⟨g0, g1⟩ (x := toS S n) (y := frS S n) (Or.inl ⟨rfl, rfl⟩) gb r1 r2
        · obtain ⟨W, d, ⟨⟨a1, a2⟩, a3⟩, a4, a5, a6⟩ := ih (by omega) g g0 g1
          refine ⟨W, d, ⟨⟨a1, a2⟩, fun v v0 v1 vg vW => ?_⟩, fun k k1 kt => ?_, fun v v0 v1 => ?_, a6⟩
          · obtain ⟨k, q1, q2, q3⟩ := a3 v v0 v1 vg vW
            exact ⟨k, q1, by omega, q3⟩
          · by_cases z : k = n
            · subst z
              exact Or.inl ⟨Classical.byContradiction fun q => ga ((a5 _ ha.1 ha.2).mp q).symm, Classical.byContradiction fun q => gb ((a5 _ hb.1 hb.2).mp q).symm⟩
            · exact a4 k (by omega) kt
          · rw [a5 v v0 v1, grp_s, grp_s, if_neg gb]
            by_cases z : grp S n v = grp S n (toS S n)
            · rw [if_pos z, z]
              exact ⟨fun q => absurd q.symm gb, fun q => absurd q.symm ga⟩
            · rw [if_neg z]
    · obtain ⟨W, d, ⟨⟨a1, a2⟩, a3⟩, a4, a5, a6⟩ := ih (by omega) g g0 g1
      have ht' := Classical.not_not.mp ht
      have eg : ∀ v, grp S (n + 1) v = grp S n v := fun v => by
        rw [grp_s]
        by_cases z : grp S n v = grp S n (toS S n)
        · rw [if_pos z, z]; exact ht'
        · rw [if_neg z]
      refine ⟨W, d, ⟨⟨a1, a2⟩, fun v v0 v1 vg vW => ?_⟩, fun k k1 kt => ?_, fun v v0 v1 => ?_, a6⟩
      · obtain ⟨k, q1, q2, q3⟩ := a3 v v0 v1 vg vW
        exact ⟨k, q1, by omega, q3⟩
      · by_cases z : k = n
        · subst z; exact absurd kt ht
        · exact a4 k (by omega) kt
      · rw [a5 v v0 v1, eg, eg]
/-- two structures agree where the smaller one reaches -/
theorem ws_agr {S : Int → Int} (h : Ok S) {n m : Nat} (hnm : n ≤ m) (hm : (m : Int) ≤ S 20) {g : Int} {W W' : Int → Int} {d d' : Int → Nat} (r : PS S n g W d) (r' : RS S m g W' d') : ∀ (N : Nat) (v : Int), d v ≤ N → 0 ≤ v → v < S 1 → W v ≠ -1 → W' v = W v ∧ d' v = d v := by
  obtain ⟨⟨a1, a2⟩, a3⟩ := r
  obtain ⟨⟨⟨b1, b2⟩, b3⟩, b4, b5, b6⟩ := r'
  intro N
  induction N with
  | zero =>
    intro v vN v0 v1 vW
    by_cases z : v = g
    · rw [z, a1, b1, a2, b2]; exact ⟨rfl, rfl⟩
    · obtain ⟨k, q1, q2, q3, u, q4, q5, q6⟩ := a3 v v0 v1 z vW
      omega
  | succ N ih =>
    intro v vN v0 v1 vW
    by_cases z : v = g
    · rw [z, a1, b1, a2, b2]; exact ⟨rfl, rfl⟩
    · obtain ⟨k, q1, q2, q3, u, q4, q5, q6⟩ := a3 v v0 v1 z vW
      have hk : (k : Int) < S 20 := by omega
      obtain ⟨u0, -, uv⟩ := ends_in h hk q4
      obtain ⟨iu, du⟩ := ih u (by omega) u0.1 u0.2 q5
      have Wu' : W' u ≠ -1 := by rw [iu]; exact q5
      have nu : W' u ≠ k := by
        rw [iu]
        intro w
        by_cases ug : u = g
        · rw [ug, a1] at w; omega
        · obtain ⟨k2, p1, p2, p3, u2, p4, p5, p6⟩ := a3 u u0.1 u0.2 ug q5
          obtain rfl : k2 = k := by omega
          have : u2 = v := by
            rcases q4 with ⟨x1, x2⟩ | ⟨x1, x2⟩ <;> rcases p4 with ⟨y1, y2⟩ | ⟨y1, y2⟩ <;> omega
          rw [this] at p6
          omega
      have e1 : W' v = k := by
        rcases b4 k (by omega) q3 with y | y | y
        · rcases q4 with ⟨x1, x2⟩ | ⟨x1, x2⟩
          · rw [x2] at y; exact absurd y.2 Wu'
          · rw [x2] at y; exact absurd y.1 Wu'
        · rcases q4 with ⟨x1, x2⟩ | ⟨x1, x2⟩
          · rw [x1] at y; exact y
          · rw [x2] at y; exact absurd y nu
        · rcases q4 with ⟨x1, x2⟩ | ⟨x1, x2⟩
          · rw [x2] at y; exact absurd y nu
          · rw [x1] at y; exact y
      refine ⟨by rw [e1, q1], ?_⟩
      obtain ⟨k2, p1, p2, p3, u2, p4, p5, p6⟩ := b3 v v0 v1 z (by rw [e1]; omega)
      obtain rfl : k2 = k := by omega
      have : u2 = u := by
        rcases q4 with ⟨x1, x2⟩ | ⟨x1, x2⟩ <;> rcases p4 with ⟨y1, y2⟩ | ⟨y1, y2⟩ <;> omega
      rw [this, du] at p6
      omega
theorem wy_ex (S : Int → Int) (g : Int) : ∃ q : (Int → Int) × (Int → Nat), Ok S → 0 ≤ g → g < S 1 → RS S (S 20).toNat g q.1 q.2 := by
  by_cases h : Ok S ∧ 0 ≤ g ∧ g < S 1
  · have hN := h.1.2.2.1
    obtain ⟨W, d, r⟩ := rs_ex h.1 (S 20).toNat (by omega) g h.2.1 h.2.2
    exact ⟨(W, d), fun _ _ _ => r⟩
  · exact ⟨(fun _ => 0, fun _ => 0), fun a b c => absurd ⟨a, b, c⟩ h⟩
noncomputable def wyS (S : Int → Int) (g : Int) : Int → Int := (Classical.choose (wy_ex S g)).1
noncomputable def dpS (S : Int → Int) (g : Int) : Int → Nat := (Classical.choose (wy_ex S g)).2
theorem wy_is {S : Int → Int} (h : Ok S) {g : Int} (g0 : 0 ≤ g) (g1 : g < S 1) : RS S (S 20).toNat g (wyS S g) (dpS S g) := Classical.choose_spec (wy_ex S g) h g0 g1
def othS (S : Int → Int) (k v : Int) : Int := if frS S k = v then toS S k else frS S k
noncomputable def pvS (S : Int → Int) (g v : Int) : Nat → Int
  | 0 => v
  | i + 1 => othS S (wyS S g (pvS S g v i)) (pvS S g v i)
theorem pv_succ {S : Int → Int} {g v : Int} : ∀ i : Nat, pvS S g v (i + 1) = pvS S g (othS S (wyS S g v) v) i
  | 0 => rfl
  | i + 1 => by
    have ih := pv_succ (S := S) (g := g) (v := v) i
    show othS S (wyS S g (pvS S g v (i + 1))) (pvS S g v (i + 1)) = othS S (wyS S g (pvS S g (othS S (wyS S g v) v) i)) (pvS S g (othS S (wyS S g v) v) i)
    rw [ih]
/-- one step on the way -/
theorem wy_step {S : Int → Int} (h : Ok S) {g : Int} (g0 : 0 ≤ g) (g1 : g < S 1) {v : Int} (v0 : 0 ≤ v) (v1 : v < S 1) (vg : v ≠ g) (vW : wyS S g v ≠ -1) : ∃ k : Nat, wyS S g v = k ∧ (k : Int) < S 20 ∧ tre S k ∧ ((frS S k = v ∧ toS S k = othS S k v) ∨ (toS S k = v ∧ frS S k = othS S k v)) ∧ (0 ≤ othS S k v ∧ othS S k v < S 1) ∧ wyS S g (othS S k v) ≠ -1 ∧ dpS S g v = dpS S g (othS S k v) + 1 := by
  have hN := h.2.2.1
  obtain ⟨⟨-, a3⟩, -⟩ := wy_is h g0 g1
  obtain ⟨k, q1, q2, q3, u, q4, q5, q6⟩ := a3 v v0 v1 vg vW
  obtain ⟨u0, -, uv⟩ := ends_in h (show (k : Int) < S 20 by omega) q4
  have e : othS S k v = u := by
    unfold othS
    rcases q4 with ⟨x1, x2⟩ | ⟨x1, x2⟩
    · rw [if_pos x1, x2]
    · rw [if_neg (by rw [x2]; exact uv), x2]
  refine ⟨k, q1, by omega, q3, ?_⟩
  rw [e]
  exact ⟨q4, u0, q5, q6⟩
theorem dp_0 {S : Int → Int} (h : Ok S) {g : Int} (g0 : 0 ≤ g) (g1 : g < S 1) {v : Int} (v0 : 0 ≤ v) (v1 : v < S 1) (vW : wyS S g v ≠ -1) : dpS S g v = 0 ↔ v = g := by
  constructor
  · intro z
    by_cases vg : v = g
    · exact vg
    · obtain ⟨k, -, -, -, -, -, -, q⟩ := wy_step h g0 g1 v0 v1 vg vW
      omega
  · intro z
    rw [z]
    exact (wy_is h g0 g1).1.1.2
theorem pv_d {S : Int → Int} (h : Ok S) {g : Int} (g0 : 0 ≤ g) (g1 : g < S 1) {v : Int} (v0 : 0 ≤ v) (v1 : v < S 1) (vW : wyS S g v ≠ -1) : ∀ i : Nat, i ≤ dpS S g v → dpS S g (pvS S g v i) + i = dpS S g v ∧ (0 ≤ pvS S g v i ∧ pvS S g v i < S 1) ∧ wyS S g (pvS S g v i) ≠ -1
  | 0, _ => ⟨rfl, ⟨v0, v1⟩, vW⟩
  | i + 1, hi => by
    obtain ⟨e, ⟨p0, p1⟩, pW⟩ := pv_d h g0 g1 v0 v1 vW i (by omega)
    have pg : pvS S g v i ≠ g := fun z => by
      have := (dp_0 h g0 g1 p0 p1 pW).mpr z
      omega
    obtain ⟨k, q1, q2, q3, q4, q5, q6, q7⟩ := wy_step h g0 g1 p0 p1 pg pW
    show dpS S g (othS S (wyS S g (pvS S g v i)) (pvS S g v i)) + (i + 1) = _ ∧ (0 ≤ othS S (wyS S g (pvS S g v i)) (pvS S g v i) ∧ othS S (wyS S g (pvS S g v i)) (pvS S g v i) < S 1) ∧ wyS S g (othS S (wyS S g (pvS S g v i)) (pvS S g v i)) ≠ -1
    rw [q1]
    exact ⟨by omega, q5, q6⟩
theorem dp_bd {S : Int → Int} (h : Ok S) {g : Int} (g0 : 0 ≤ g) (g1 : g < S 1) {v : Int} (v0 : 0 ≤ v) (v1 : v < S 1) (vW : wyS S g v ≠ -1) : (dpS S g v : Int) < S 1 := by
  have hE := h.2.1
  have a := (wy_is h g0 g1).2.2.2 v v0 v1 vW
  have b := sumI_bd (f := fun e => if wyS S g e = -1 then 0 else 1) (c := 1) (S 1).toNat (fun k _ _ => by split <;> omega)
  unfold cntW at a
  omega
