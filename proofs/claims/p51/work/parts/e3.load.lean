/-! e3: the text handed over -/
theorem evs_of {B S : Int → Int} {n i per : Int} {tm : Int → Int} (hR : RWp S per 0 tm []) (hp : 2 ≤ per ∧ per ≤ 6) : ∀ (e : Nat) (f : Nat), e ≤ 5 → (∀ j : Int, 0 ≤ j → j < e → 0 ≤ tm j ∧ tm j < per) → AT B i (txEs tm e) → i + (txEs tm e).length ≤ n → ∃ S1, RWp S1 per e tm [] ∧ stsP B n (f + e) S i = stsP B n f S1 (i + (txEs tm e).length)
  | 0, f, _, _, _, _ => ⟨S, hR, by show stsP B n f S i = stsP B n f S (i + ((0 : Nat) : Int)); rw [show i + ((0 : Nat) : Int) = i by omega]⟩
  | e + 1, f, he, ht, h, hn => by
    have h' : AT B i (txEs tm e ++ txE (e : Int) (tm e)) := h
    have hn' : i + (((txEs tm e ++ txE (e : Int) (tm e)).length : Nat) : Int) ≤ n := hn
    rw [List.length_append] at hn'
    obtain ⟨S1, r1, e1⟩ := evs_of (n := n) hR hp e (f + 1) (by omega) (fun j j0 j1 => ht j j0 (by omega)) h'.l (by omega)
    obtain ⟨S2, r2, e2⟩ := ev_of (f := f) (n := n) h'.r r1 hp ⟨by omega, by omega⟩ (ht e (by omega) (by omega)) rfl (by omega)
    refine ⟨S2, by rw [show ((e + 1 : Nat) : Int) = (e : Int) + 1 by omega]; exact r2, ?_⟩
    rw [show f + (e + 1) = f + 1 + e by omega, e1, e2]
    show stsP B n f S2 _ = stsP B n f S2 (i + (((txEs tm e ++ txE (e : Int) (tm e)).length : Nat) : Int))
    rw [List.length_append]
    congr 1
    omega
theorem sps_of {B : Int → Int} {n per E : Int} {tm : Int → Int} (hp : 2 ≤ per ∧ per ≤ 6) (he : 2 ≤ E ∧ E ≤ 5) : ∀ (l l0 : List Sp5) (S : Int → Int) (i : Int) (f : Nat), RWp S per E tm l0 → l0.length + l.length ≤ 7 → (∀ x ∈ l, spT per E x) → AT B i (txSs l) → i + (txSs l).length ≤ n → ∃ S1, RWp S1 per E tm (l0 ++ l) ∧ stsP B n (f + l.length) S i = stsP B n f S1 (i + (txSs l).length)
  | [], l0, S, i, f, hR, _, _, _, _ => ⟨S, by rw [List.append_nil]; exact hR, by show stsP B n f S i = stsP B n f S (i + ((0 : Nat) : Int)); rw [show i + ((0 : Nat) : Int) = i by omega]⟩
  | x :: l, l0, S, i, f, hR, hl, hx, h, hn => by
    have h' : AT B i (txS x ++ txSs l) := h
    have hn' : i + (((txS x ++ txSs l).length : Nat) : Int) ≤ n := hn
    rw [List.length_append] at hn'
    simp only [List.length] at hl
    obtain ⟨S1, r1, e1⟩ := sp_of (f := f + l.length) (n := n) h'.l hR hp he (by omega) (hx x List.mem_cons_self) (by omega)
    obtain ⟨S2, r2, e2⟩ := sps_of (n := n) hp he l (l0 ++ [x]) S1 _ f r1 (by rw [List.length_append]; simp only [List.length]; omega) (fun y hy => hx y (List.mem_cons_of_mem _ hy)) h'.r (by omega)
    refine ⟨S2, by rw [List.append_assoc] at r2; exact r2, ?_⟩
    show stsP B n (f + (l.length + 1)) S i = stsP B n f S2 (i + (((txS x ++ txSs l).length : Nat) : Int))
    rw [show f + (l.length + 1) = f + l.length + 1 by omega, e1, e2, List.length_append]
    congr 1
    omega
theorem row0_rw {S : Int → Int} {per : Int} {tm : Int → Int} : RWp (upS (row0 S) 0 per) per 0 tm [] := by
  have e : ∀ j, 0 ≤ j → j < 91 → row0 S j = if j = 0 then 12 else 0 := fun j j0 j1 => if_pos ⟨j0, j1⟩
  refine ⟨upS_same, by rw [upS_ne (by decide), e 1 (by decide) (by decide)]; rfl, by rw [upS_ne (by decide), e 20 (by decide) (by decide)]; rfl, fun j j0 j1 => ?_, fun j j0 j1 => by omega, fun j x hx => by cases hx⟩
  rw [upS_ne (by decide), e 1 (by decide) (by decide)] at j1
  rw [if_neg (by decide)] at j1
  omega
theorem stsP_end {B S : Int → Int} {n : Int} : ∀ f : Nat, stsP B n f S n = goodP S n
  | 0 => rfl
  | f + 1 => if_pos tk_end
theorem prs_all {B S : Int → Int} {per E : Int} {tm : Int → Int} {l : List Sp5} (hp : 2 ≤ per ∧ per ≤ 6) (he : 2 ≤ E ∧ E ≤ 5) (ht : ∀ j : Int, 0 ≤ j → j < E → 0 ≤ tm j ∧ tm j < per) (hl : l.length ≤ 7) (hx : ∀ x ∈ l, spT per E x) (h : AT B 0 (txP per ++ txEs tm E.toNat ++ txSs l)) : ∃ S1, RWp S1 per E tm l ∧ prsP B S (txP per ++ txEs tm E.toNat ++ txSs l).length = goodP S1 (txP per ++ txEs tm E.toNat ++ txSs l).length := by
  obtain ⟨n, hn⟩ : ∃ n : Int, n = (txP per ++ txEs tm E.toNat ++ txSs l).length := ⟨_, rfl⟩
  rw [← hn]
  rw [List.length_append, List.length_append] at hn
  obtain ⟨p1, p2⟩ := per_of (S := S) (n := n) h.l.l hp (by omega)
  obtain ⟨S1, r1, e1⟩ := evs_of (n := n) (i := (txP per).length) (row0_rw (S := S) (per := per) (tm := tm)) hp E.toNat (500 - E.toNat) (by omega) (fun j j0 j1 => ht j j0 (by omega)) (h.l.r' (by omega)) (by omega)
  rw [show ((E.toNat : Nat) : Int) = E by omega] at r1
  obtain ⟨S2, r2, e2⟩ := sps_of (n := n) (B := B) hp he l [] S1 ((txP per).length + (txEs tm E.toNat).length) (500 - E.toNat - l.length) r1 (by simp only [List.length]; omega) hx (h.r' (by rw [List.length_append]; omega)) (by omega)
  refine ⟨S2, r2, ?_⟩
  unfold prsP
  rw [if_neg p1, p2, bind_good rfl]
  dsimp only [goodP]
  rw [show 500 = 500 - E.toNat + E.toNat by omega, e1, show 500 - E.toNat = 500 - E.toNat - l.length + l.length by omega, e2, show ((txP per).length : Int) + (txEs tm E.toNat).length + (txSs l).length = n by omega, stsP_end]
  rfl
theorem RWp.ok {S : Int → Int} {per E : Int} {tm : Int → Int} {l : List Sp5} (h : RWp S per E tm l) (hp : 2 ≤ per ∧ per ≤ 6) (he : 2 ≤ E ∧ E ≤ 5) (ht : ∀ j : Int, 0 ≤ j → j < E → 0 ≤ tm j ∧ tm j < per) (hl : l.length ≤ 7) (hx : ∀ x ∈ l, spT per E x) : Ok S := by
  obtain ⟨r0, r1, r2, r3, r4, r5⟩ := h
  refine ⟨by omega, by omega, by omega, fun e e0 e1 => ?_, fun k k0 k1 => ?_⟩
  · rw [r4 e e0 (by omega), r0]
    exact ht e e0 (by omega)
  · have hk : k.toNat < l.length := by omega
    have h5 := r5 k.toNat l[k.toNat] (List.getElem?_eq_getElem hk)
    have hs := hx _ (List.getElem_mem hk)
    rw [show ((k.toNat : Nat) : Int) = k by omega] at h5
    unfold SpOk
    unfold spT at hs
    rw [r0, r1]
    omega
/-- four letters in a word -/
theorem or_shl {x c : Int} (hx : 0 ≤ x ∧ x < 8388608) (hc : 0 ≤ c ∧ c < 256) : bOr (bShl x 8) c = x * 256 + c := by
  refine bit_ext (bOr_inR _ _) (by unfold inR; omega) (fun i hi => ?_)
  rw [bit_or, show (8 : Int) = ((8 : Nat) : Int) from rfl, bit_shl x (by decide), bit_nat (x := x * 256 + c) (by omega) (by omega), bit_nat (x := c) hc.1 (by omega), bit_nat (x := x) hx.1 (by omega)]
  rw [show (x * 256 + c).toNat = 2 ^ 8 * x.toNat + c.toNat by omega, Nat.testBit_two_pow_mul_add _ (show c.toNat < 2 ^ 8 by omega)]
  by_cases z : i < 8
  · rw [if_pos z, decide_eq_true z]
    simp
  · rw [if_neg z, decide_eq_false z, decide_eq_true hi]
    have hc9 : c.toNat.testBit i = false := Nat.testBit_lt_two_pow (Nat.lt_of_lt_of_le (show c.toNat < 2 ^ 8 by omega) (Nat.pow_le_pow_right (by decide) (by omega)))
    rw [hc9]
    simp
theorem f4_val {f : Int → Int} (h : ∀ j, 0 ≤ j → j < 4 → 0 ≤ f j ∧ f j ≤ 127) : f4 f 4 = ((f 0 * 256 + f 1) * 256 + f 2) * 256 + f 3 := by
  have h0 := h 0 (by decide) (by decide)
  have h1 := h 1 (by decide) (by decide)
  have h2 := h 2 (by decide) (by decide)
  have h3 := h 3 (by decide) (by decide)
  show bOr (bShl (bOr (bShl (bOr (bShl (bOr (bShl 0 8) (f 0)) 8) (f 1)) 8) (f 2)) 8) (f 3) = _
  rw [or_shl (x := 0) (by decide) (by omega), show 0 * 256 + f 0 = f 0 by omega, or_shl (x := f 0) (c := f 1) (by omega) (by omega), or_shl (x := f 0 * 256 + f 1) (c := f 2) (by omega) (by omega), or_shl (x := (f 0 * 256 + f 1) * 256 + f 2) (c := f 3) (by omega) (by omega)]
theorem ush_24 {x : Nat} (hx : x ≤ 2147483647) : bUshr (x : Int) 24 = ((x / 16777216 : Nat) : Int) := ush_nat (n := 24) hx (fun _ => rfl)
theorem ush_00 {x : Nat} (hx : x ≤ 2147483647) : bUshr (x : Int) 0 = ((x / 1 : Nat) : Int) := ush_nat (n := 0) hx (fun _ => rfl)
theorem i2b_nat {y : Nat} (hy : y ≤ 2147483647) (h : y % 256 < 128) : bI2b (y : Int) = ((y % 256 : Nat) : Int) := by
  unfold bI2b
  rw [byte_i2b, oi_inR (show inR (y : Int) by unfold inR; omega)]
  unfold Int.bmod
  dsimp only
  rw [if_pos (by omega)]
  omega
theorem by_4 {a b c d : Int} (ha : 0 ≤ a ∧ a ≤ 127) (hb : 0 ≤ b ∧ b ≤ 127) (hc : 0 ≤ c ∧ c ≤ 127) (hd : 0 ≤ d ∧ d ≤ 127) (x : Int) (hx : x = ((a * 256 + b) * 256 + c) * 256 + d) : bI2b (bUshr x 24) = a ∧ bI2b (bUshr x 16) = b ∧ bI2b (bUshr x 8) = c ∧ bI2b (bUshr x 0) = d := by
  obtain ⟨a, rfl⟩ : ∃ n : Nat, a = (n : Int) := ⟨a.toNat, by omega⟩
  obtain ⟨b, rfl⟩ : ∃ n : Nat, b = (n : Int) := ⟨b.toNat, by omega⟩
  obtain ⟨c, rfl⟩ : ∃ n : Nat, c = (n : Int) := ⟨c.toNat, by omega⟩
  obtain ⟨d, rfl⟩ : ∃ n : Nat, d = (n : Int) := ⟨d.toNat, by omega⟩
  obtain ⟨y, rfl⟩ : ∃ n : Nat, x = (n : Int) := ⟨x.toNat, by omega⟩
  have hy : y = ((a * 256 + b) * 256 + c) * 256 + d := by omega
  have hy2 : y ≤ 2147483647 := by omega
  rw [ush_24 hy2, ush_16 hy2, ush_8 hy2, ush_00 hy2]
  refine ⟨?_, ?_, ?_, ?_⟩
  · rw [i2b_nat (by omega) (by omega)]; omega
  · rw [i2b_nat (by omega) (by omega)]; omega
  · rw [i2b_nat (by omega) (by omega)]; omega
  · rw [i2b_nat (by omega) (by omega)]; omega
theorem g4_at {C g : Int → Int} {p : Int} (hg : ∀ j, p ≤ j → j < p + 4 → 0 ≤ g j ∧ g j ≤ 127) (i : Int) : G4 C p (f4 (fun j => g (p + j)) 4) i = if p ≤ i ∧ i < p + 4 then g i else C i := by
  have hf := f4_val (f := fun j => g (p + j)) (fun j j0 j1 => hg (p + j) (by omega) (by omega))
  obtain ⟨e0, e1, e2, e3⟩ := by_4 (hg (p + 0) (by omega) (by omega)) (hg (p + 1) (by omega) (by omega)) (hg (p + 2) (by omega) (by omega)) (hg (p + 3) (by omega) (by omega)) _ hf
  unfold G4
  rw [e0, e1, e2, e3, show p + 0 = p by omega]
  by_cases z3 : i = p + 3
  · rw [z3, upS_same, if_pos (by omega)]
  · rw [upS_ne z3]
    by_cases z2 : i = p + 2
    · rw [z2, upS_same, if_pos (by omega)]
    · rw [upS_ne z2]
      by_cases z1 : i = p + 1
      · rw [z1, upS_same, if_pos (by omega)]
      · rw [upS_ne z1]
        by_cases z0 : i = p
        · rw [z0, upS_same, if_pos (by omega)]
        · rw [upS_ne z0, if_neg (by omega)]
theorem g20_at {C g : Int → Int} {p : Int} (hg : ∀ j, 0 ≤ g j ∧ g j ≤ 127) (i : Int) : G20 C p (f4 (fun j => g (p + j)) 4) (f4 (fun j => g (p + 4 + j)) 4) (f4 (fun j => g (p + 8 + j)) 4) (f4 (fun j => g (p + 12 + j)) 4) (f4 (fun j => g (p + 16 + j)) 4) i = if p ≤ i ∧ i < p + 20 then g i else C i := by
  unfold G20
  rw [g4_at (fun j _ _ => hg j), g4_at (fun j _ _ => hg j), g4_at (fun j _ _ => hg j), g4_at (fun j _ _ => hg j), g4_at (fun j _ _ => hg j)]
  by_cases z : p ≤ i ∧ i < p + 20
  · rw [if_pos z]
    repeat' split
    all_goals first | rfl | omega
  · rw [if_neg z, if_neg (by omega), if_neg (by omega), if_neg (by omega), if_neg (by omega), if_neg (by omega)]
/-- what the law's methods rely on of the timetable -/
def CC (S : Int → Int) (M : Id4 → Int → Int) : Prop := plR M 0 S ∧ Ok S ∧ ∃ nx Hs, hR8 M nx 0 Hs
theorem CC.cls {S : Int → Int} {M M' : Id4 → Int → Int} (h : CC S M) (he : ∀ q, q.1 ≤ 8 → M' q = M q) : CC S M' := by
  obtain ⟨h1, h2, nx, Hs, h3⟩ := h
  exact ⟨pl_eq (fun c => he _ (Nat.le_of_ble_eq_true rfl)) h1, h2, nx, Hs, h3.chg (he _ (by decide)) (fun p c _ => he _ (Nat.le_of_ble_eq_true rfl))⟩
theorem Lall_10 : Lall.all (fun q => match kd q with | .inl 10 => false | _ => true) = true := by decide +kernel
theorem isS_off {sx : Sx} {L : List Id4} {σ : Hp} {x : Id4} (hI : DI sx L σ) (hx : isS L x) : ¬ x.1 ≤ 8 := fun z => by
  rcases hx with hx | ⟨i, -, hx⟩
  · have h := List.all_eq_true.mp Lall_10 x (hI.2.1.2 x hx.1 z)
    rw [hx.2] at h
    exact absurd h (by decide)
  · rw [hx] at z
    exact absurd z (by dsimp only; omega)
theorem CLd.di {sx : Sx} {L0 L : List Id4} {σ : Hp} (h : CLd L0) (hL : LE L0 L) (hI : DI sx L σ) : CLd L := ⟨fun q hq => hL _ (h.1 q hq), hI.2.1.2⟩
/-- nothing but the class's cells differs -/
def OFF (σ σ' : Hp) : Prop := ∀ q : Id4, ¬ q.1 ≤ 8 → σ'.1 q = σ.1 q ∧ σ'.2 q = σ.2 q
theorem OFF.rf {σ : Hp} : OFF σ σ := fun _ _ => ⟨rfl, rfl⟩
theorem OFF.tr {σ σ1 σ2 : Hp} (h1 : OFF σ σ1) (h2 : OFF σ1 σ2) : OFF σ σ2 := fun q hq => ⟨(h2 q hq).1.trans (h1 q hq).1, (h2 q hq).2.trans (h1 q hq).2⟩
theorem OFF.mg {M M' : Id4 → Int → Int} {Rf : Id4 → Int → Option Id4} {b : Bool} : OFF (M, Rf) (mgM M M', mgR Rf b) := fun _ hq => ⟨mgM_o hq, mgR_o hq⟩
theorem R0_in {b b' : Bool} (h : R0 b = R0 b') : b = b' := by
  have e := congrFun (congrFun h (6, 0, 0, 0)) 2
  cases b <;> cases b' <;> first | rfl | (exact absurd e (by decide))
def FDI (M : Id4 → Int → Int) (k : Int) (g : Int → Int) : Prop := M (8, 0, 0, 0) 1 = k ∧ ∀ i, 0 ≤ i → M (8, 0, 1, 0) i = if i < k then g i else 0
