/-! e2: the law's text, read -/
def AT (B : Int → Int) (i : Int) (l : List Int) : Prop := ∀ j : Nat, j < l.length → B (i + (j : Int)) = l.getD j 0
theorem AT.l {B : Int → Int} {i : Int} {l1 l2 : List Int} (h : AT B i (l1 ++ l2)) : AT B i l1 := fun j hj => by
  rw [h j (by rw [List.length_append]; omega), List.getD_eq_getElem?_getD, List.getD_eq_getElem?_getD, List.getElem?_append_left hj]
theorem AT.r {B : Int → Int} {i : Int} {l1 l2 : List Int} (h : AT B i (l1 ++ l2)) : AT B (i + l1.length) l2 := fun j hj => by
  have e := h (l1.length + j) (by rw [List.length_append]; omega)
  rw [show i + (l1.length : Int) + (j : Int) = i + ((l1.length + j : Nat) : Int) by omega, e, List.getD_eq_getElem?_getD, List.getD_eq_getElem?_getD, List.getElem?_append_right (by omega), Nat.add_sub_cancel_left]
theorem AT.r' {B : Int → Int} {i p : Int} {l1 l2 : List Int} (h : AT B i (l1 ++ l2)) (e : i + (l1.length : Int) = p) : AT B p l2 := e ▸ h.r
theorem AT.one {B : Int → Int} {i c : Int} (h : AT B i [c]) : B i = c := by
  have := h 0 (by simp)
  rw [show i + ((0 : Nat) : Int) = i by omega] at this
  exact this
theorem AT.all {B : Int → Int} {i : Int} {l : List Int} {p : Int → Bool} (h : AT B i l) (hp : l.all p = true) : ∀ k, i ≤ k → k < i + l.length → p (B k) = true := fun k k0 k1 => by
  have e := h (k - i).toNat (by omega)
  rw [show i + (((k - i).toNat : Nat) : Int) = k by omega] at e
  rw [e]
  have hm : (k - i).toNat < l.length := by omega
  rw [List.getD_eq_getElem?_getD, List.getElem?_eq_getElem hm]
  exact List.all_eq_true.mp hp _ (List.getElem_mem hm)
theorem rn_run {p : Int → Bool} {B : Int → Int} {n s m : Int} (hm : 0 ≤ m) (h : ∀ k, s ≤ k → k < s + m → p (B k) = true) (hn : s + m ≤ n) (he : ¬ p (B (s + m)) = true) : rn p B n s = s + m := by
  obtain ⟨⟨a, b⟩, c, d⟩ := rn_at (p := p) (B := B) (n := n) (i := s)
  have h1 : ¬ rn p B n s < s + m := fun z => d ⟨by omega, h _ a z⟩
  have h2 : ¬ s + m < rn p B n s := fun z => he (c (s + m) (by omega) z).2
  omega
theorem ws32 : isWs 32 = true := by decide
theorem st_0 {B : Int → Int} {n i : Int} (h : ¬ isWs (B i) = true) : stT B n i = i := rn_no (fun z => h z.2)
theorem st_1 {B : Int → Int} {n i : Int} (hi : i < n) (h : B i = 32) (h2 : ¬ isWs (B (i + 1)) = true) : stT B n i = i + 1 := by
  unfold stT
  rw [rn_go ⟨hi, by rw [h]; exact ws32⟩]
  exact rn_no (fun z => h2 z.2)
theorem tk_end {B : Int → Int} {n : Int} : kdT B n n = 0 := by
  unfold kdT stT
  rw [rn_no (fun z => absurd z.1 (by omega))]
  exact (tk_e (Int.le_refl n)).2
theorem tkWord {B : Int → Int} {n i s : Int} {l : List Int} (hs : stT B n i = s) (h : AT B s l) (hl : l.all isLt = true) (h1 : 1 ≤ l.length ∧ l.length ≤ 8) (hn : s + l.length < n) (he : ¬ isLt (B (s + l.length)) = true) : nxT B n i = s + l.length ∧ kdT B n i = 2 := by
  have r := rn_run (n := n) (by omega) (h.all hl) (by omega) he
  have t := tk_w (B := B) (n := n) (s := s) ⟨by omega, h.all hl s (by omega) (by omega)⟩
  unfold nxT kdT
  rw [hs, t.1, t.2, r]
  exact ⟨rfl, if_neg (by omega)⟩
theorem dgs_dg {v : Int} (hv : 0 ≤ v ∧ v ≤ 99) : (dgs v).all isDg = true := by
  unfold dgs
  split
  · rw [List.all_cons, List.all_nil, Bool.and_true]; exact isDg_iff.mpr (by omega)
  · rw [List.all_cons, List.all_cons, List.all_nil, Bool.and_true, Bool.and_eq_true]; exact ⟨isDg_iff.mpr (by omega), isDg_iff.mpr (by omega)⟩
theorem dgs_pos {v : Int} : 1 ≤ (dgs v).length := by
  unfold dgs
  split <;> simp
theorem dg_nlt {c : Int} (h : isDg c = true) : ¬ isLt c = true ∧ ¬ isWs c = true := by
  have := isDg_iff.mp h
  exact ⟨fun z => by have := isLt_iff.mp z; omega, fun z => by have := isWs_iff.mp z; omega⟩
theorem tkNum {B : Int → Int} {n i s v : Int} (hs : stT B n i = s) (h : AT B s (dgs v)) (hv : 0 ≤ v ∧ v ≤ 99) (hn : s + (dgs v).length < n) (he : ¬ isDg (B (s + (dgs v).length)) = true) : nxT B n i = s + (dgs v).length ∧ kdT B n i = 3 ∧ vlT B n i = v := by
  have hp := dgs_pos (v := v)
  have hl := dgs_le (v := v)
  have r := rn_run (n := n) (by omega) (h.all (dgs_dg hv)) (by omega) he
  have h0 := h.all (dgs_dg hv) s (by omega) (by omega)
  have t := tk_d (B := B) (n := n) (s := s) ⟨by omega, (dg_nlt h0).1, h0⟩
  unfold nxT kdT vlT tvS
  rw [hs, t.1, t.2, r]
  refine ⟨rfl, if_neg (by omega), ?_⟩
  have e0 := h 0 (by omega)
  rw [show s + ((0 : Nat) : Int) = s by omega] at e0
  by_cases z : v < 10
  · have ed : dgs v = [48 + v] := if_pos z
    rw [ed] at e0 ⊢
    rw [if_pos (by simp only [List.length]; omega), e0]
    show 48 + v - 48 = v
    omega
  · have ed : dgs v = [48 + v / 10, 48 + v % 10] := if_neg z
    have e1 := h 1 (by rw [ed]; simp)
    rw [ed] at e0 e1 ⊢
    rw [if_neg (by simp only [List.length]; omega), e0, show s + 1 = s + ((1 : Nat) : Int) by omega, e1]
    show 10 * (48 + v / 10 - 48) + (48 + v % 10) - 48 = v
    omega
theorem tkSemi {B : Int → Int} {n i s : Int} (hs : stT B n i = s) (h : B s = 59) (hn : s < n) : nxT B n i = s + 1 ∧ kdT B n i = 4 := by
  have t := tk_p (B := B) (n := n) (s := s) ⟨hn, by rw [h]; decide, by rw [h]; decide⟩
  unfold nxT kdT
  rw [hs, t.1, t.2, if_pos h]
  exact ⟨rfl, rfl⟩
theorem nm_one {B S : Int → Int} {a x : Int} (hx : 0 ≤ x) (hB : B a = 97 + x) : ∀ (f : Nat) (e : Int), 0 ≤ e → (∀ j, e ≤ j → j < e + f → S (2 + 2 * j) = 1 + j ∧ S (2 + 2 * j + 1) = 0) → nmF B S a (a + 1) f e = if e ≤ x ∧ x < e + f then x else -1
  | 0, e, he, _ => by
    rw [if_neg (by omega)]
    rfl
  | f + 1, e, he, h => by
    have h0 := h e (by omega) (by omega)
    have c1 : cdI B a (min (a + 1) (a + 4)) = x + 1 := by
      unfold cdI
      rw [show (min (a + 1) (a + 4) - a).toNat = 1 by omega]
      show 27 * 0 + B (a + ((0 : Nat) : Int)) - 97 + 1 = x + 1
      rw [show a + ((0 : Nat) : Int) = a by omega, hB]
      omega
    have c2 : cdI B (min (a + 1) (a + 4)) (a + 1) = 0 := by
      unfold cdI
      rw [show (a + 1 - min (a + 1) (a + 4)).toNat = 0 by omega]
      rfl
    have hiff : nmE B S a (a + 1) e ↔ e = x := by
      unfold nmE
      rw [c1, c2, h0.1, h0.2]
      exact ⟨fun z => by omega, fun z => ⟨by omega, rfl⟩⟩
    show (@ite Int (nmE B S a (a + 1) e) (Classical.propDecidable _) e (nmF B S a (a + 1) f (e + 1))) = _
    by_cases z : e = x
    · rw [if_pos (hiff.mpr z), if_pos (by omega)]; exact z
    · rw [if_neg (fun y => z (hiff.mp y)), nm_one hx hB f (e + 1) (by omega) (fun j j0 j1 => h j (by omega) (by omega))]
      by_cases y : e + 1 ≤ x ∧ x < e + 1 + f
      · rw [if_pos y, if_pos (by omega)]
      · rw [if_neg y, if_neg (by omega)]
def NMS (S : Int → Int) : Prop := ∀ j, 0 ≤ j → j < S 1 → S (2 + 2 * j) = 1 + j ∧ S (2 + 2 * j + 1) = 0
theorem nmD_one {B S : Int → Int} {a x : Int} (hx : 0 ≤ x) (hB : B a = 97 + x) (h1 : 0 ≤ S 1) (h : NMS S) : nmD B S a (a + 1) = if x < S 1 then x else -1 := by
  unfold nmD
  rw [nm_one hx hB (S 1).toNat 0 (Int.le_refl 0) (fun j j0 j1 => h j j0 (by omega))]
  by_cases z : x < S 1
  · rw [if_pos (by omega), if_pos z]
  · rw [if_neg (by omega), if_neg z]
/-- the row of what was read: the period, the events, the spans -/
def RWp (S : Int → Int) (per : Int) (e : Int) (tm : Int → Int) (l : List Sp5) : Prop := S 0 = per ∧ S 1 = e ∧ S 20 = l.length ∧ NMS S ∧ (∀ j, 0 ≤ j → j < e → S (14 + j) = tm j) ∧ ∀ (j : Nat) (x : Sp5), l[j]? = some x → S (21 + 5 * (j : Int) + 0) = x.1 ∧ S (21 + 5 * (j : Int) + 1) = x.2.1 ∧ S (21 + 5 * (j : Int) + 2) = x.2.2.1 ∧ S (21 + 5 * (j : Int) + 3) = x.2.2.2.1 ∧ S (21 + 5 * (j : Int) + 4) = x.2.2.2.2
theorem kW_eq : kW 3 = [112, 101, 114, 105, 111, 100] ++ [32] ∧ kW 4 = [59] ∧ kW 5 = [101, 118, 101, 110, 116] ++ [32] ∧ kW 7 = [32] ∧ kW 8 = [115, 112, 97, 110] ++ [32] := by decide +kernel
theorem n32 : ¬ isLt 32 = true ∧ ¬ isDg 32 = true := by decide
theorem n59 : ¬ isLt 59 = true ∧ ¬ isDg 59 = true ∧ ¬ isWs 59 = true := by decide
theorem lt_nws {c : Int} (h : isLt c = true) : ¬ isWs c = true := fun z => by
  have := isLt_iff.mp h
  have := isWs_iff.mp z
  omega
theorem dgs_nws {B : Int → Int} {s v : Int} (h : AT B s (dgs v)) (hv : 0 ≤ v ∧ v ≤ 99) : ¬ isWs (B s) = true := by
  have := dgs_pos (v := v)
  exact (dg_nlt (h.all (dgs_dg hv) s (by omega) (by omega))).2
theorem isWd_of {B : Int → Int} {n i s w : Int} {l : List Int} (hs : stT B n i = s) (h : AT B s l) (ht : nxT B n i = s + l.length ∧ kdT B n i = 2) (hl : (l.length : Int) = wLenI w) (hb : ∀ j : Nat, j < l.length → l.getD j 0 = wBytI w j) : isWd B n i w := by
  refine ⟨ht.2, by rw [ht.1, hs]; omega, fun j j0 j1 => ?_⟩
  rw [hs]
  have e := h j.toNat (by omega)
  rw [show ((j.toNat : Nat) : Int) = j by omega] at e
  rw [e, hb _ (by omega), show ((j.toNat : Nat) : Int) = j by omega]
theorem numP_of {B S : Int → Int} {n idx lo hi i v : Int} (hk : kdT B n i = 3) (hv : vlT B n i = v) (h : lo ≤ v ∧ v ≤ hi) : numP B n idx lo hi S i = goodP (upS S idx v) (nxT B n i) := by
  unfold numP
  rw [if_neg (fun z => z hk), hv, if_neg (fun z => z h)]
theorem closP_of {B S : Int → Int} {n i : Int} (hk : kdT B n i = 4) : closP B n S i = goodP S (nxT B n i) := if_neg (fun z => z hk)
theorem sts_step {B S S1 : Int → Int} {n i i1 : Int} {f : Nat} (hk : ¬ kdT B n i = 0) (h1 : stP1 B n S i = goodP S1 i1) (h2 : kdT B n i1 = 4) : stsP B n (f + 1) S i = stsP B n f S1 (nxT B n i1) := by
  show (if kdT B n i = 0 then goodP S i else bindP (stP1 B n S i) (fun S1 i1 => bindP (closP B n S1 i1) (fun S2 i2 => stsP B n f S2 i2))) = _
  rw [if_neg hk, h1]
  show bindP (goodP S1 i1) _ = _
  rw [bind_good rfl]
  show bindP (closP B n S1 i1) _ = _
  rw [closP_of h2, bind_good rfl]
  rfl
theorem per_of {B S : Int → Int} {n per : Int} (h : AT B 0 (txP per)) (hp : 2 ≤ per ∧ per ≤ 6) (hn : (txP per).length ≤ n) : ¬ kdT B n 0 = 0 ∧ bindP (perP B n (row0 S) 0) (closP B n) = goodP (upS (row0 S) 0 per) (txP per).length := by
  obtain ⟨k3, k4, -⟩ := kW_eq
  unfold txP at h hn ⊢
  rw [k3, k4] at h hn ⊢
  have hd := dgs_pos (v := per)
  rw [List.length_append, List.length_append, List.length_append] at hn
  simp only [List.length] at hn
  have a1 := h.l.l.l
  have a2 := (h.l.l.r' (p := 6) rfl).one
  have a3 := h.l.r' (p := 7) rfl
  have a4 := (h.r' (p := 7 + (dgs per).length) (by rw [List.length_append, List.length_append]; simp only [List.length]; omega)).one
  have s1 : stT B n 0 = 0 := st_0 (lt_nws (a1.all (p := isLt) (by decide) 0 (by decide) (by decide)))
  have t1 := tkWord s1 a1 (by decide) (by decide) (by simp only [List.length]; omega) (by rw [show (0 : Int) + (([112, 101, 114, 105, 111, 100] : List Int).length : Int) = 6 from rfl, a2]; exact n32.1)
  have t1' : nxT B n 0 = 6 := t1.1
  have s2 : stT B n 6 = 7 := st_1 (by omega) a2 (dgs_nws a3 (by omega))
  have t2 := tkNum s2 a3 (by omega) (by omega) (by rw [a4]; exact n59.2.1)
  have s3 : stT B n (7 + (dgs per).length) = 7 + (dgs per).length := st_0 (by rw [a4]; exact n59.2.2)
  have t3 := tkSemi s3 a4 (by omega)
  refine ⟨by rw [t1.2]; decide, ?_⟩
  have w1 : wdI B n 0 0 = 1 := wdI_1 (isWd_of s1 a1 t1 rfl (fun j hj => by
    simp only [List.length] at hj
    have : j = 0 ∨ j = 1 ∨ j = 2 ∨ j = 3 ∨ j = 4 ∨ j = 5 := by omega
    rcases this with z | z | z | z | z | z <;> subst z <;> rfl))
  unfold perP
  rw [if_neg (by rw [w1]; decide), t1', numP_of t2.2.1 t2.2.2 (by omega), bind_good rfl]
  show closP B n (upS (row0 S) 0 per) (nxT B n 6) = _
  rw [t2.1, closP_of t3.2, t3.1]
  congr 1
  rw [List.length_append, List.length_append, List.length_append]
  simp only [List.length]
  omega
theorem wd_ev {B : Int → Int} {n i : Int} (hs : stT B n i = i) (a1 : AT B i [101, 118, 101, 110, 116]) (t1 : nxT B n i = i + ([101, 118, 101, 110, 116] : List Int).length ∧ kdT B n i = 2) : isWd B n i 1 := isWd_of hs a1 t1 rfl (fun j hj => by
    simp only [List.length] at hj
    have : j = 0 ∨ j = 1 ∨ j = 2 ∨ j = 3 ∨ j = 4 := by omega
    rcases this with z | z | z | z | z <;> subst z <;> rfl)
theorem wd_sp {B : Int → Int} {n i : Int} (hs : stT B n i = i) (a1 : AT B i [115, 112, 97, 110]) (t1 : nxT B n i = i + ([115, 112, 97, 110] : List Int).length ∧ kdT B n i = 2) : isWd B n i 2 ∧ ¬ isWd B n i 1 := ⟨isWd_of hs a1 t1 rfl (fun j hj => by
    simp only [List.length] at hj
    have : j = 0 ∨ j = 1 ∨ j = 2 ∨ j = 3 := by omega
    rcases this with z | z | z | z <;> subst z <;> rfl), fun z => by
    have e := z.2.1
    rw [t1.1, hs] at e
    have e2 : wLenI 1 = 5 := rfl
    rw [e2] at e
    simp only [List.length] at e
    omega⟩
theorem ev_of {B S : Int → Int} {n i per e t : Int} {tm : Int → Int} {f : Nat} (h : AT B i (txE e t)) (hR : RWp S per e tm []) (hp : 2 ≤ per ∧ per ≤ 6) (he : 0 ≤ e ∧ e ≤ 4) (ht : 0 ≤ t ∧ t < per) (hte : tm e = t) (hn : i + (txE e t).length ≤ n) : ∃ S1, RWp S1 per (e + 1) tm [] ∧ stsP B n (f + 1) S i = stsP B n f S1 (i + (txE e t).length) := by
  obtain ⟨-, k4, k5, k7, -⟩ := kW_eq
  unfold txE at h hn ⊢
  rw [k4, k5, k7] at h hn ⊢
  have hd := dgs_pos (v := t)
  rw [List.length_append, List.length_append, List.length_append, List.length_append, List.length_append] at hn
  simp only [List.length] at hn
  have a1 := h.l.l.l.l.l
  have a2 := (h.l.l.l.l.r' (p := i + 5) rfl).one
  have a3 := (h.l.l.l.r' (p := i + 6) (by rw [List.length_append]; simp only [List.length]; omega))
  have a3' := a3.one
  have a4 := (h.l.l.r' (p := i + 7) (by rw [List.length_append, List.length_append]; simp only [List.length]; omega)).one
  have a5 := h.l.r' (p := i + 8) (by rw [List.length_append, List.length_append, List.length_append]; simp only [List.length]; omega)
  have a6 := (h.r' (p := i + 8 + (dgs t).length) (by rw [List.length_append, List.length_append, List.length_append, List.length_append]; simp only [List.length]; omega)).one
  have lt1 : ([97 + e] : List Int).all isLt = true := by rw [List.all_cons, List.all_nil, Bool.and_true]; exact isLt_iff.mpr (by omega)
  have s1 : stT B n i = i := st_0 (lt_nws (a1.all (p := isLt) (by decide) i (by omega) (by simp only [List.length]; omega)))
  have t1 := tkWord s1 a1 (by decide) (by decide) (by simp only [List.length]; omega) (by rw [show i + (([101, 118, 101, 110, 116] : List Int).length : Int) = i + 5 from rfl, a2]; exact n32.1)
  have t1' : nxT B n i = i + 5 := t1.1
  have s2 : stT B n (i + 5) = i + 6 := (st_1 (by omega) a2 (by rw [show i + 5 + 1 = i + 6 by omega, a3']; exact lt_nws (isLt_iff.mpr (by omega)))).trans (by omega)
  have t2 := tkWord s2 a3 lt1 (by simp) (by simp only [List.length]; omega) (by rw [show i + 6 + (([97 + e] : List Int).length : Int) = i + 7 by simp only [List.length]; omega, a4]; exact n32.1)
  have t2' : nxT B n (i + 5) = i + 7 := t2.1.trans (by simp only [List.length]; omega)
  have s3 : stT B n (i + 7) = i + 8 := (st_1 (by omega) a4 (by rw [show i + 7 + 1 = i + 8 by omega]; exact dgs_nws a5 (by omega))).trans (by omega)
  have t3 := tkNum s3 a5 (by omega) (by omega) (by rw [a6]; exact n59.2.1)
  have s4 : stT B n (i + 8 + (dgs t).length) = i + 8 + (dgs t).length := st_0 (by rw [a6]; exact n59.2.2)
  have t4 := tkSemi s4 a6 (by omega)
  obtain ⟨r0, r1, r2, r3, r4, r5⟩ := hR
  have r2' : S 20 = 0 := r2
  have w1 := wdI_1 (wd_ev s1 a1 t1)
  have nd : nmD B S (i + 6) (i + 7) = -1 := by
    rw [show i + 7 = i + 6 + 1 by omega, nmD_one he.1 a3' (by omega) r3, if_neg (by omega)]
  have c1 : cdI B (i + 6) (min (i + 7) (i + 6 + 4)) = 1 + e := by
    unfold cdI
    rw [show (min (i + 7) (i + 6 + 4) - (i + 6)).toNat = 1 by omega]
    show 27 * 0 + B (i + 6 + ((0 : Nat) : Int)) - 97 + 1 = 1 + e
    rw [show i + 6 + ((0 : Nat) : Int) = i + 6 by omega, a3']
    omega
  have c2 : cdI B (min (i + 7) (i + 6 + 4)) (i + 7) = 0 := by
    unfold cdI
    rw [show (i + 7 - min (i + 7) (i + 6 + 4)).toNat = 0 by omega]
    rfl
  have hU : nmU B S (i + 6) (i + 7) = upS (upS S (2 + 2 * e) (1 + e)) (2 + 2 * e + 1) 0 := by
    unfold nmU
    rw [c1, c2, r1]
  obtain ⟨S1, hS1⟩ : ∃ S1, S1 = upS (upS (upS (upS S (2 + 2 * e) (1 + e)) (2 + 2 * e + 1) 0) (14 + e) t) 1 (e + 1) := ⟨_, rfl⟩
  have est : stP1 B n S i = goodP S1 (i + 8 + (dgs t).length) := by
    unfold stP1
    rw [if_pos (by rw [w1]; decide)]
    unfold evP
    rw [if_neg (by omega), t1', if_neg (fun z => z t2.2), s2, t2', nd, if_neg (fun z => z rfl), hU, numP_of t3.2.1 t3.2.2 (by omega), bind_good rfl]
    rw [t3.1, hS1, r1]
    dsimp only [goodP]
    rw [upS_ne (show (1 : Int) ≠ 14 + e by omega), upS_ne (show (1 : Int) ≠ 2 + 2 * e + 1 by omega), upS_ne (show (1 : Int) ≠ 2 + 2 * e by omega), r1]
  refine ⟨S1, ?_, ?_⟩
  · have f1 : S1 1 = e + 1 := by rw [hS1, upS_same]
    have fo : ∀ j, j ≠ 1 → j ≠ 14 + e → j ≠ 2 + 2 * e → j ≠ 2 + 2 * e + 1 → S1 j = S j := fun j j1 j2 j3 j4 => by rw [hS1, upS_ne j1, upS_ne j2, upS_ne j4, upS_ne j3]
    refine ⟨(fo 0 (by omega) (by omega) (by omega) (by omega)).trans r0, f1, (fo 20 (by omega) (by omega) (by omega) (by omega)).trans r2', fun j j0 j1 => ?_, fun j j0 j1 => ?_, fun j x hx => by cases hx⟩
    · by_cases z : j = e
      · rw [z, hS1]
        exact ⟨by rw [upS_ne (by omega), upS_ne (by omega), upS_ne (by omega), upS_same], by rw [upS_ne (by omega), upS_ne (by omega), upS_same]⟩
      · rw [fo (2 + 2 * j) (by omega) (by omega) (by omega) (by omega), fo (2 + 2 * j + 1) (by omega) (by omega) (by omega) (by omega)]
        exact r3 j j0 (by omega)
    · by_cases z : j = e
      · rw [z, hS1, upS_ne (by omega), upS_same, hte]
      · rw [fo (14 + j) (by omega) (by omega) (by omega) (by omega)]
        exact r4 j j0 (by omega)
  · rw [sts_step (by rw [t1.2]; decide) est t4.2, t4.1]
    congr 1
    rw [List.length_append, List.length_append, List.length_append, List.length_append, List.length_append]
    simp only [List.length]
    omega
theorem ltr_at {B : Int → Int} {n i p x : Int} (hi : i < n) (h1 : B i = 32) (hp : p = i + 1) (h2 : B p = 97 + x) (hx : 0 ≤ x ∧ x ≤ 4) (hn : p + 1 < n) (he : B (p + 1) = 32) : stT B n i = p ∧ nxT B n i = p + 1 ∧ kdT B n i = 2 := by
  subst hp
  have s2 : stT B n i = i + 1 := st_1 hi h1 (by rw [h2]; exact lt_nws (isLt_iff.mpr (by omega)))
  have a3 : AT B (i + 1) [97 + x] := fun j hj => by
    simp only [List.length] at hj
    have : j = 0 := by omega
    subst this
    rw [show i + 1 + ((0 : Nat) : Int) = i + 1 by omega]
    exact h2
  have t2 := tkWord s2 a3 (by rw [List.all_cons, List.all_nil, Bool.and_true]; exact isLt_iff.mpr (by omega)) (by simp) (by simp only [List.length]; omega) (by rw [show i + 1 + (([97 + x] : List Int).length : Int) = i + 1 + 1 from rfl, he]; exact n32.1)
  exact ⟨s2, t2.1.trans rfl, t2.2⟩
theorem num_at {B : Int → Int} {n i p v : Int} (hi : i < n) (h1 : B i = 32) (hp : p = i + 1) (h2 : AT B p (dgs v)) (hv : 0 ≤ v ∧ v ≤ 99) (hn : p + (dgs v).length < n) (he : ¬ isDg (B (p + (dgs v).length)) = true) : nxT B n i = p + (dgs v).length ∧ kdT B n i = 3 ∧ vlT B n i = v := by
  subst hp
  exact tkNum (st_1 hi h1 (dgs_nws h2 hv)) h2 hv hn he
theorem evIn_of {B S : Int → Int} {n idx but i s x : Int} (ht : stT B n i = s ∧ nxT B n i = s + 1 ∧ kdT B n i = 2) (hB : B s = 97 + x) (hx : 0 ≤ x ∧ x < S 1) (hS : NMS S) (hb : x ≠ but) : evIn B n idx but S i = goodP (upS S idx x) (s + 1) := by
  unfold evIn
  rw [if_neg (fun z => z ht.2.2), ht.1, ht.2.1, nmD_one hx.1 hB (by omega) hS, if_pos hx.2, if_neg (by omega)]
theorem sp_of {B S : Int → Int} {n i per E : Int} {tm : Int → Int} {l : List Sp5} {x : Sp5} {f : Nat} (h : AT B i (txS x)) (hR : RWp S per E tm l) (hp : 2 ≤ per ∧ per ≤ 6) (he : 2 ≤ E ∧ E ≤ 5) (hl : l.length ≤ 6) (hx : spT per E x) (hn : i + (txS x).length ≤ n) : ∃ S1, RWp S1 per E tm (l ++ [x]) ∧ stsP B n (f + 1) S i = stsP B n f S1 (i + (txS x).length) := by
  obtain ⟨a, b, lo, hi, w⟩ := x
  obtain ⟨xa, xb, xl, xh, xw⟩ := hx
  dsimp only at xa xb xl xh xw
  obtain ⟨-, k4, -, k7, k8⟩ := kW_eq
  unfold txS at h hn ⊢
  dsimp only at h hn ⊢
  rw [k4, k7, k8] at h hn ⊢
  have d1 := dgs_pos (v := lo)
  have d2 := dgs_pos (v := hi)
  have d3 := dgs_pos (v := w)
  simp only [List.length_append, List.length] at hn
  have a1 := h.l.l.l.l.l.l.l.l.l.l.l
  have a2 := (h.l.l.l.l.l.l.l.l.l.l.r' (p := i + 4) rfl).one
  have a3 := (h.l.l.l.l.l.l.l.l.l.r' (p := i + 5) (by simp only [List.length_append, List.length]; omega)).one
  have a4 := (h.l.l.l.l.l.l.l.l.r' (p := i + 6) (by simp only [List.length_append, List.length]; omega)).one
  have a5 := (h.l.l.l.l.l.l.l.r' (p := i + 7) (by simp only [List.length_append, List.length]; omega)).one
  have a6 := (h.l.l.l.l.l.l.r' (p := i + 8) (by simp only [List.length_append, List.length]; omega)).one
  have a7 := h.l.l.l.l.l.r' (p := i + 9) (by simp only [List.length_append, List.length]; omega)
  have a8 := (h.l.l.l.l.r' (p := i + 9 + (dgs lo).length) (by simp only [List.length_append, List.length]; omega)).one
  have a9 := h.l.l.l.r' (p := i + 9 + (dgs lo).length + 1) (by simp only [List.length_append, List.length]; omega)
  have a10 := (h.l.l.r' (p := i + 9 + (dgs lo).length + 1 + (dgs hi).length) (by simp only [List.length_append, List.length]; omega)).one
  have a11 := h.l.r' (p := i + 9 + (dgs lo).length + 1 + (dgs hi).length + 1) (by simp only [List.length_append, List.length]; omega)
  have a12 := (h.r' (p := i + 9 + (dgs lo).length + 1 + (dgs hi).length + 1 + (dgs w).length) (by simp only [List.length_append, List.length]; omega)).one
  have s1 : stT B n i = i := st_0 (lt_nws (a1.all (p := isLt) (by decide) i (by omega) (by simp only [List.length]; omega)))
  have t1 := tkWord s1 a1 (by decide) (by decide) (by simp only [List.length]; omega) (by rw [show i + (([115, 112, 97, 110] : List Int).length : Int) = i + 4 from rfl, a2]; exact n32.1)
  have t1' : nxT B n i = i + 4 := t1.1
  have t2 := ltr_at (n := n) (by omega) a2 (p := i + 5) (by omega) a3 (by omega) (by omega) (by rw [show i + 5 + 1 = i + 6 by omega]; exact a4)
  have t3 := ltr_at (n := n) (by omega) a4 (p := i + 7) (by omega) a5 (by omega) (by omega) (by rw [show i + 7 + 1 = i + 8 by omega]; exact a6)
  have t4 := num_at (n := n) (by omega) a6 (p := i + 9) (by omega) a7 (by omega) (by omega) (by rw [a8]; exact n32.2)
  have t5 := num_at (n := n) (by omega) a8 rfl a9 (by omega) (by omega) (by rw [a10]; exact n32.2)
  have t6 := num_at (n := n) (by omega) a10 rfl a11 (by omega) (by omega) (by rw [a12]; exact n59.2.1)
  have t7 := tkSemi (n := n) (st_0 (i := i + 9 + (dgs lo).length + 1 + (dgs hi).length + 1 + (dgs w).length) (by rw [a12]; exact n59.2.2)) a12 (by omega)
  obtain ⟨r0, r1, r2, r3, r4, r5⟩ := hR
  have w12 := wd_sp s1 a1 t1
  obtain ⟨k, hk⟩ : ∃ k, k = S 20 := ⟨_, rfl⟩
  have hk2 : k = (l.length : Int) := by rw [hk]; exact r2
  obtain ⟨S1, hS1⟩ : ∃ S1, S1 = upS (upS (upS (upS (upS (upS (upS S (21 + 5 * k + 0) a) (21 + 5 * k + 1) b) (21 + 5 * k + 2) lo) (21 + 5 * k + 3) hi) (21 + 5 * k + 4) 1) (21 + 5 * k + 4) w) 20 (k + 1) := ⟨_, rfl⟩
  have nm1 : NMS (upS S (21 + 5 * k + 0) a) := fun j j0 j1 => by
    have j1' : j < S 1 := by rw [upS_ne (by omega)] at j1; exact j1
    rw [upS_ne (by omega), upS_ne (by omega)]
    exact r3 j j0 j1'
  have est : stP1 B n S i = goodP S1 (i + 9 + (dgs lo).length + 1 + (dgs hi).length + 1 + (dgs w).length) := by
    unfold stP1
    rw [if_neg (by rw [wdI_0 w12.2]; decide), if_pos (by rw [wdI_1 w12.1]; decide)]
    unfold spP
    rw [← hk, if_neg (by omega), t1', evIn_of t2 a3 (by omega) r3 (by omega), bind_good rfl]
    dsimp only [goodP]
    rw [upS_same, show i + 5 + 1 = i + 6 by omega, evIn_of t3 a5 (by rw [upS_ne (by omega)]; omega) nm1 (by omega), bind_good rfl]
    dsimp only [goodP]
    rw [show i + 7 + 1 = i + 8 by omega, numP_of t4.2.1 t4.2.2 (by omega), bind_good rfl]
    dsimp only [goodP]
    rw [t4.1, upS_same, upS_ne (show (0 : Int) ≠ 21 + 5 * k + 2 by omega), upS_ne (show (0 : Int) ≠ 21 + 5 * k + 1 by omega), upS_ne (show (0 : Int) ≠ 21 + 5 * k + 0 by omega), r0, numP_of t5.2.1 t5.2.2 (by omega), bind_good rfl]
    dsimp only [goodP]
    rw [t5.1, weP_3 t6.2.1, numP_of t6.2.1 t6.2.2 (by omega), bind_good rfl]
    dsimp only [goodP]
    rw [t6.1, hS1]
    rw [upS_ne (show (20 : Int) ≠ 21 + 5 * k + 4 by omega), upS_ne (show (20 : Int) ≠ 21 + 5 * k + 4 by omega), upS_ne (show (20 : Int) ≠ 21 + 5 * k + 3 by omega), upS_ne (show (20 : Int) ≠ 21 + 5 * k + 2 by omega), upS_ne (show (20 : Int) ≠ 21 + 5 * k + 1 by omega), upS_ne (show (20 : Int) ≠ 21 + 5 * k + 0 by omega), ← hk]
  refine ⟨S1, ?_, ?_⟩
  · have fo : ∀ j, j ≠ 20 → (j < 21 + 5 * k ∨ 21 + 5 * k + 5 ≤ j) → S1 j = S j := fun j j1 j2 => by rw [hS1, upS_ne j1, upS_ne (by omega), upS_ne (by omega), upS_ne (by omega), upS_ne (by omega), upS_ne (by omega), upS_ne (by omega)]
    refine ⟨(fo 0 (by omega) (by omega)).trans r0, (fo 1 (by omega) (by omega)).trans r1, ?_, fun j j0 j1 => ?_, fun j j0 j1 => ?_, fun j y hy => ?_⟩
    · rw [hS1, upS_same, List.length_append, hk2]
      rfl
    · have j1' : j < S 1 := by rw [fo 1 (by omega) (by omega)] at j1; exact j1
      rw [fo (2 + 2 * j) (by omega) (by omega), fo (2 + 2 * j + 1) (by omega) (by omega)]
      exact r3 j j0 j1'
    · rw [fo (14 + j) (by omega) (by omega)]
      exact r4 j j0 j1
    · by_cases z : j < l.length
      · rw [List.getElem?_append_left z] at hy
        rw [fo (21 + 5 * (j : Int) + 0) (by omega) (by omega), fo (21 + 5 * (j : Int) + 1) (by omega) (by omega), fo (21 + 5 * (j : Int) + 2) (by omega) (by omega), fo (21 + 5 * (j : Int) + 3) (by omega) (by omega), fo (21 + 5 * (j : Int) + 4) (by omega) (by omega)]
        exact r5 j y hy
      · have hj : j = l.length := by
          have := (List.getElem?_eq_some_iff.mp hy).1
          rw [List.length_append] at this
          simp only [List.length] at this
          omega
        subst hj
        rw [List.getElem?_append_right (Nat.le_refl _), Nat.sub_self] at hy
        have hy2 := Option.some.inj hy
        rw [← hy2, ← hk2, hS1]
        dsimp only
        refine ⟨?_, ?_, ?_, ?_, ?_⟩
        · rw [upS_ne (by omega), upS_ne (by omega), upS_ne (by omega), upS_ne (by omega), upS_ne (by omega), upS_ne (by omega), upS_same]
        · rw [upS_ne (by omega), upS_ne (by omega), upS_ne (by omega), upS_ne (by omega), upS_ne (by omega), upS_same]
        · rw [upS_ne (by omega), upS_ne (by omega), upS_ne (by omega), upS_ne (by omega), upS_same]
        · rw [upS_ne (by omega), upS_ne (by omega), upS_ne (by omega), upS_same]
        · rw [upS_ne (by omega), upS_same]
  · rw [sts_step (by rw [t1.2]; decide) est t7.2, t7.1]
    congr 1
    simp only [List.length_append, List.length]
    omega
