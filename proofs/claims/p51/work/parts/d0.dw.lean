/-! d0: the walk of what makes cells as it goes. The list L of the cells that there are grows; what has a class number from 20 on (String constants, their bytes, the tables of digits, the script) is no cell of it and never changes. DW says of a frame over such a heap what AW says over the class's own. -/
abbrev Sx : Type := Nat × (Nat → Int32)
def inK (L : List Id4) (x : Id4) : Prop := x ∈ L ∨ 20 ≤ x.1
def AGd (L : List Id4) (ρ ρ' : Id4 → Nat) : Prop := ∀ x, inK L x → ρ' x = ρ x
def LE (L L' : List Id4) : Prop := ∀ x, x ∈ L → x ∈ L'
def RFd (L : List Id4) (vs : List AV) : Prop := ∀ v ∈ vs, ∀ x, v = aR x → inK L x
def RCd (L : List Id4) (σ : Hp) : Prop := ∀ q ∈ L, ∀ k q2, σ.2 q k = some q2 → inK L q2
def sK (q : Id4) : Prop := ∃ i : Nat, i < 9 ∧ q = (20, (i : Int), 0, 0)
def bK (q : Id4) : Prop := ∃ i : Nat, i < 9 ∧ q = (21, (i : Int), 0, 0)
/-- what the constants hold -/
def KS (sx : Sx) (σ : Hp) : Prop := (∀ i : Nat, i < 9 → σ.2 (20, (i : Int), 0, 0) 0 = some (21, (i : Int), 0, 0) ∧ σ.1 (20, (i : Int), 0, 0) 1 = 0 ∧ ∀ j : Nat, j < wLen.getD i 0 → σ.1 (21, (i : Int), 0, 0) (j : Int) = ((wByt.getD i []).getD j 0).toInt) ∧ (∀ j : Nat, j < 100 → σ.1 (23, 0, 0, 0) (j : Int) = 48 + (j : Int) % 10 ∧ σ.1 (23, 1, 0, 0) (j : Int) = 48 + (j : Int) / 10) ∧ ∀ j : Nat, j < sx.1 → σ.1 (30, 0, 0, 0) (j : Int) = (sx.2 j).toInt
def DI (sx : Sx) (L : List Id4) (σ : Hp) : Prop := (∀ q ∈ L, q.1 < 20) ∧ (L.Nodup ∧ ∀ q ∈ L, q.1 ≤ 8 → q ∈ Lall) ∧ (∀ q ∈ L, 9 ≤ q.1 → q.2.1 < (L.length : Int)) ∧ RCd L σ ∧ KS sx σ
theorem AGd.rf {L : List Id4} {ρ : Id4 → Nat} : AGd L ρ ρ := fun _ _ => rfl
theorem LE.rf {L : List Id4} : LE L L := fun _ h => h
theorem LE.tr {L L1 L2 : List Id4} (h1 : LE L L1) (h2 : LE L1 L2) : LE L L2 := fun x h => h2 x (h1 x h)
theorem LE.app {L L1 L2 : List Id4} (h1 : LE L L1) : LE L (L1 ++ L2) := fun x h => List.mem_append_left _ (h1 x h)
theorem inK.le {L L' : List Id4} {x : Id4} (hL : LE L L') (h : inK L x) : inK L' x := h.imp (hL x) id
theorem AGd.tr {L L1 : List Id4} {ρ ρ1 ρ2 : Id4 → Nat} (hL : LE L L1) (h1 : AGd L ρ ρ1) (h2 : AGd L1 ρ1 ρ2) : AGd L ρ ρ2 := fun x hx => (h2 x (hx.le hL)).trans (h1 x hx)
theorem RFd.nil {L : List Id4} : RFd L [] := fun _ h => absurd h List.not_mem_nil
theorem RFd.i {L : List Id4} {st : List AV} {n : Int} (h : RFd L st) : RFd L (aI n :: st) := fun v hv x e => (List.mem_cons.mp hv).elim (fun z => by rw [z] at e; cases e) (fun z => h v z x e)
theorem RFd.f {L : List Id4} {st : List AV} {n : UInt32} (h : RFd L st) : RFd L (aF n :: st) := fun v hv x e => (List.mem_cons.mp hv).elim (fun z => by rw [z] at e; cases e) (fun z => h v z x e)
theorem RFd.n {L : List Id4} {st : List AV} (h : RFd L st) : RFd L (aN :: st) := fun v hv x e => (List.mem_cons.mp hv).elim (fun z => by rw [z] at e; cases e) (fun z => h v z x e)
theorem RFd.r {L : List Id4} {st : List AV} {q : Id4} (hq : inK L q) (h : RFd L st) : RFd L (aR q :: st) := fun v hv x e => (List.mem_cons.mp hv).elim (fun z => by rw [z] at e; cases e; exact hq) (fun z => h v z x e)
theorem RFd.v {L : List Id4} {st : List AV} {w : AV} (hq : RFd L [w]) (h : RFd L st) : RFd L (w :: st) := fun v hv x e => (List.mem_cons.mp hv).elim (fun z => hq v (by rw [z]; exact List.mem_cons_self) x e) (fun z => h v z x e)
theorem RFd.tl {L : List Id4} {st : List AV} {w : AV} (h : RFd L (w :: st)) : RFd L st := fun v hv => h v (List.mem_cons_of_mem _ hv)
theorem RFd.hd {L : List Id4} {st : List AV} {q : Id4} (h : RFd L (aR q :: st)) : inK L q := h _ List.mem_cons_self q rfl
theorem RFd.mm {L : List Id4} {vs ws : List AV} (h : RFd L vs) (hs : ∀ v ∈ ws, v ∈ vs) : RFd L ws := fun v hv => h v (hs v hv)
theorem RFd.le {L L' : List Id4} {st : List AV} (hL : LE L L') (h : RFd L st) : RFd L' st := fun v hv x e => (h v hv x e).le hL
theorem RFd.set {L : List Id4} {lv : List AV} {i : Nat} {w : AV} (h : RFd L lv) (hw : RFd L [w]) : RFd L (lv.set i w) := fun v hv x e => (List.mem_or_eq_of_mem_set hv).elim (fun z => h v z x e) (fun z => hw v (by rw [z]; exact List.mem_cons_self) x e)
theorem RFd.ent {L : List Id4} {vs : List AV} {n : Nat} (h : RFd L vs) : RFd L (vs ++ List.replicate n aX) := fun v hv x e => (List.mem_append.mp hv).elim (fun z => h v z x e) (fun z => by rw [List.eq_of_mem_replicate z] at e; cases e)
theorem RFd.at {L : List Id4} {lv : List AV} {i : Nat} {q : Id4} (h : RFd L lv) (e : lv[i]? = some (aR q)) : inK L q := h _ (List.mem_of_getElem? e) q rfl
theorem RFd.int {L : List Id4} {n : Int} : RFd L [aI n] := RFd.nil.i
/-- the kit's own -/
theorem cv_agd {L : List Id4} {ρ ρ' : Id4 → Nat} (hA : AGd L ρ ρ') {v : AV} (h : ∀ x, v = aR x → inK L x) : cv ρ' v = cv ρ v := by
  rcases v with i | o | i | x | x | x
  · rfl
  · cases o with
    | none => rfl
    | some x =>
      show va_rf (some (ρ' x)) = va_rf (some (ρ x))
      rw [hA x (h x rfl)]
  all_goals rfl
theorem st_agd {L : List Id4} {ρ ρ' : Id4 → Nat} (hA : AGd L ρ ρ') {st : List AV} (h : RFd L st) : st.map (cv ρ') = st.map (cv ρ) := List.map_congr_left fun v hv => cv_agd hA (h v hv)
theorem lh_agd {L : List Id4} {nL : Nat} {ρ ρ' : Id4 → Nat} {ls : Array Slot} (hA : AGd L ρ ρ') {lv : List AV} (h : RFd L lv) (hl : LH ρ ls nL lv) : LH ρ' ls nL lv := ⟨hl.1, hl.2.1, fun i v hi hx => by rw [cv_agd hA (h v (List.mem_of_getElem? hi))]; exact hl.2.2 i v hi hx⟩
theorem ent_agd {L : List Id4} {ρ ρ' : Id4 → Nat} {cy : Nat → ClassId} {σ : Hp} {q : Id4} (hA : AGd L ρ ρ') (hC : RCd L σ) (hq : q ∈ L) : ent ρ' cy σ q = ent ρ cy σ q := by
  have e : ∀ k, (σ.2 q k).map ρ' = (σ.2 q k).map ρ := fun k => by
    cases hz : σ.2 q k with
    | none => rfl
    | some q2 => show some (ρ' q2) = some (ρ q2); rw [hA q2 (hC q hq k q2 hz)]
  unfold ent flds arrs
  simp only [e]
theorem ent_loc {ρ : Id4 → Nat} {cy : Nat → ClassId} {σ σ' : Hp} {q : Id4} (h1 : σ'.1 q = σ.1 q) (h2 : σ'.2 q = σ.2 q) : ent ρ cy σ' q = ent ρ cy σ q := by
  unfold ent flds arrs
  rw [h1, h2]
theorem ws_agd {L : List Id4} {ρ ρ' : Id4 → Nat} {cy : Nat → ClassId} {σ : Hp} (hA : AGd L ρ ρ') (hC : RCd L σ) : wsOf ρ' cy L σ = wsOf ρ cy L σ := List.map_congr_left fun q hq => by rw [hA q (Or.inl hq), ent_agd hA hC hq]
theorem ws_loc {L : List Id4} {ρ : Id4 → Nat} {cy : Nat → ClassId} {σ σ' : Hp} (h : ∀ q ∈ L, σ'.1 q = σ.1 q ∧ σ'.2 q = σ.2 q) : wsOf ρ cy L σ' = wsOf ρ cy L σ := List.map_congr_left fun q hq => by rw [ent_loc (h q hq).1 (h q hq).2]
abbrev zM (M : Id4 → Int → Int) (q : Id4) : Id4 → Int → Int := setA M q (fun _ => 0)
abbrev zR (R : Id4 → Int → Option Id4) (q : Id4) : Id4 → Int → Option Id4 := setR R q (fun _ => none)
/-- one cell more -/
theorem growd {g : va_G} {cy : Nat → ClassId} {A : Nat → Prop} {ρ : Id4 → Nat} {L : List Id4} {a : Nat} {q : Id4} {M : Id4 → Int → Int} {R : Id4 → Int → Option Id4} {E : va_E} {H1 : Heap} {B : Int → Int} (hq : q ∉ L) (hq2 : q.1 < 20) (hC : RCd L (M, R)) (hP1 : va_P g vwCl (wsOf ρ cy L (M, R) ++ [(a, E)]) H1) (hD1 : va_D A (wsOf ρ cy L (M, R) ++ [(a, E)])) (hE : ∀ ρ', ent ρ' cy (setA M q B, zR R q) q = E) : ∃ ρ' : Id4 → Nat, AGd L ρ ρ' ∧ ρ' q = a ∧ va_P g vwCl (wsOf ρ' cy (L ++ [q]) (setA M q B, zR R q)) H1 ∧ va_D A (wsA ρ' (L ++ [q])) := by
  have h1 : ∀ x, x ≠ q → (fun x => if x = q then a else ρ x) x = ρ x := fun x hx => if_neg hx
  have h2 : AGd L ρ (fun x => if x = q then a else ρ x) := fun x hx => h1 x (fun z => by
    rcases hx with hx | hx
    · exact hq (z ▸ hx)
    · rw [z] at hx; omega)
  have h3 : (fun x => if x = q then a else ρ x) q = a := if_pos rfl
  have e0 : wsOf (fun x => if x = q then a else ρ x) cy L (setA M q B, zR R q) = wsOf ρ cy L (M, R) := by
    rw [ws_loc (σ := (M, R)) (fun x hx => by
      have hne : x ≠ q := fun z => hq (z ▸ hx)
      exact ⟨if_neg hne, if_neg hne⟩)]
    exact ws_agd h2 hC
  have e : wsOf (fun x => if x = q then a else ρ x) cy (L ++ [q]) (setA M q B, zR R q) = wsOf ρ cy L (M, R) ++ [(a, E)] := by
    have e1 : wsOf (fun x => if x = q then a else ρ x) cy (L ++ [q]) (setA M q B, zR R q) = wsOf (fun x => if x = q then a else ρ x) cy L (setA M q B, zR R q) ++ [((fun x => if x = q then a else ρ x) q, ent (fun x => if x = q then a else ρ x) cy (setA M q B, zR R q) q)] := by
      unfold wsOf
      rw [List.map_append]
      rfl
    rw [e1, e0, h3, hE]
  refine ⟨fun x => if x = q then a else ρ x, h2, h3, ?_, ?_⟩
  · rw [e]; exact hP1
  · rw [← e] at hD1
    exact Dws hD1
theorem KS.of {sx : Sx} {σ σ' : Hp} (h : KS sx σ) (he : ∀ q, 20 ≤ q.1 → σ'.1 q = σ.1 q ∧ σ'.2 q = σ.2 q) : KS sx σ' := by
  obtain ⟨h1, h2, h3⟩ := h
  refine ⟨fun i hi => ?_, fun j hj => ?_, fun j hj => ?_⟩
  · rw [(he (20, (i : Int), 0, 0) (Nat.le_of_ble_eq_true rfl)).1, (he (20, (i : Int), 0, 0) (Nat.le_of_ble_eq_true rfl)).2, (he (21, (i : Int), 0, 0) (Nat.le_of_ble_eq_true rfl)).1]
    exact h1 i hi
  · rw [(he (23, 0, 0, 0) (Nat.le_of_ble_eq_true rfl)).1, (he (23, 1, 0, 0) (Nat.le_of_ble_eq_true rfl)).1]
    exact h2 j hj
  · rw [(he (30, 0, 0, 0) (Nat.le_of_ble_eq_true rfl)).1]
    exact h3 j hj
theorem DI.putM {sx : Sx} {L : List Id4} {M : Id4 → Int → Int} {R : Id4 → Int → Option Id4} {q : Id4} {k v : Int} (h : DI sx L (M, R)) (hq : q ∈ L) : DI sx L (updM M q k v, R) := by
  obtain ⟨h1, h2, h3, h4, h5⟩ := h
  refine ⟨h1, h2, h3, h4, h5.of (fun x hx => ⟨funext fun k' => if_neg (fun z => ?_), rfl⟩)⟩
  have := h1 q hq
  rw [z.1] at hx
  omega
theorem DI.setM {sx : Sx} {L : List Id4} {M M' : Id4 → Int → Int} {R : Id4 → Int → Option Id4} (h : DI sx L (M, R)) (hq : ∀ x, 20 ≤ x.1 → M' x = M x) : DI sx L (M', R) := by
  obtain ⟨h1, h2, h3, h4, h5⟩ := h
  exact ⟨h1, h2, h3, h4, h5.of (fun x hx => ⟨hq x hx, rfl⟩)⟩
theorem DI.putR {sx : Sx} {L : List Id4} {M : Id4 → Int → Int} {R : Id4 → Int → Option Id4} {q q2 : Id4} {k : Int} (h : DI sx L (M, R)) (hq : q ∈ L) (h2 : inK L q2) : DI sx L (M, updR R q k (some q2)) := by
  obtain ⟨h1, h2', h3, h4, h5⟩ := h
  refine ⟨h1, h2', h3, fun q' hq' k' q3 e => ?_, h5.of (fun x hx => ⟨rfl, funext fun k' => if_neg (fun z => ?_)⟩)⟩
  · by_cases z : q' = q ∧ k' = k
    · have e2 : updR R q k (some q2) q' k' = some q2 := if_pos z
      rw [show (M, updR R q k (some q2)).2 q' k' = some q2 from e2] at e
      cases e
      exact h2
    · have e2 : updR R q k (some q2) q' k' = R q' k' := if_neg z
      exact h4 q' hq' k' q3 (by rw [← e]; exact e2.symm)
  · have := h1 q hq
    rw [z.1] at hx
    omega
theorem DI.fresh {sx : Sx} {L : List Id4} {σ : Hp} {t c : Nat} {r : Int} (h : DI sx L σ) (ht : 9 ≤ t) : (t, (L.length : Int), c, r) ∉ L := fun z => by
  have := h.2.2.1 _ z ht
  dsimp only at this
  omega
theorem DI.new {sx : Sx} {L : List Id4} {M : Id4 → Int → Int} {R : Id4 → Int → Option Id4} {t c : Nat} {r : Int} {B : Int → Int} (h : DI sx L (M, R)) (ht : 9 ≤ t ∧ t < 20) : DI sx (L ++ [(t, (L.length : Int), c, r)]) (setA M (t, (L.length : Int), c, r) B, zR R (t, (L.length : Int), c, r)) := by
  have hf := h.fresh (c := c) (r := r) ht.1
  obtain ⟨h1, h2, h3, h4, h5⟩ := h
  refine ⟨fun q hq => ?_, ?_, fun q hq h9 => ?_, fun q hq k q2 e => ?_, h5.of (fun x hx => ?_)⟩
  · rcases List.mem_append.mp hq with z | z
    · exact h1 q z
    · rw [List.mem_singleton.mp z]; exact ht.2
  · refine ⟨?_, fun q hq h8 => ?_⟩
    · rw [List.nodup_append]
      exact ⟨h2.1, List.nodup_cons.mpr ⟨List.not_mem_nil, List.nodup_nil⟩, fun a ha b hb => by rw [List.mem_singleton.mp hb]; exact fun z => hf (z ▸ ha)⟩
    · rcases List.mem_append.mp hq with z | z
      · exact h2.2 q z h8
      · rw [List.mem_singleton.mp z] at h8
        exact absurd h8 (by dsimp only; omega)
  · rw [List.length_append, List.length_singleton]
    rcases List.mem_append.mp hq with z | z
    · have := h3 q z h9
      omega
    · rw [List.mem_singleton.mp z]; dsimp only; omega
  · rcases List.mem_append.mp hq with z | z
    · have e2 : zR R (t, (L.length : Int), c, r) q k = R q k := congrFun (setR_ne (fun y => hf (by rw [← y]; exact z))) k
      exact (h4 q z k q2 (by rw [← e]; exact e2.symm)).le (LE.rf.app)
    · have e2 : zR R (t, (L.length : Int), c, r) q k = none := by rw [List.mem_singleton.mp z]; exact congrFun (if_pos rfl) k
      rw [show (setA M (t, (L.length : Int), c, r) B, zR R (t, (L.length : Int), c, r)).2 q k = none from e2] at e
      cases e
  · have hne : x ≠ (t, (L.length : Int), c, r) := fun z => by rw [z] at hx; exact absurd hx (by dsimp only; omega)
    exact ⟨if_neg hne, if_neg hne⟩
theorem P_sub {g : va_G} {cy : Nat → ClassId} {ρ : Id4 → Nat} {L L' : List Id4} {σ : Hp} {H : Heap} (hL : LE L' L) (h : va_P g vwCl (wsOf ρ cy L σ) H) : va_P g vwCl (wsOf ρ cy L' σ) H := by
  intro k x hx
  unfold wsOf at hx
  rw [List.getElem?_map] at hx
  cases hq : L'[k]? with
  | none => rw [hq] at hx; cases hx
  | some q =>
    rw [hq] at hx
    cases hx
    obtain ⟨i, -, hi2⟩ := ws_at (ρ := ρ) (cy := cy) (σ := σ) (hL q (List.mem_of_getElem? hq))
    exact h i _ hi2
theorem D_inj {A : Nat → Prop} {ρ : Id4 → Nat} {L : List Id4} {q q' : Id4} (h : va_D A (wsA ρ L)) (hq : q ∈ L) (hq' : q' ∈ L) (e : ρ q = ρ q') : q = q' := by
  obtain ⟨i, hi⟩ := List.getElem?_of_mem hq
  obtain ⟨j, hj⟩ := List.getElem?_of_mem hq'
  have h1 : (wsA ρ L)[i]? = some (ρ q, .inr (0, [])) := by unfold wsA; rw [List.getElem?_map, hi]; rfl
  have h2 : (wsA ρ L)[j]? = some (ρ q', .inr (0, [])) := by unfold wsA; rw [List.getElem?_map, hj]; rfl
  have := h.1 i j _ _ h1 h2 e
  subst this
  rw [hi] at hj
  exact Option.some.inj hj
theorem D_sub {A : Nat → Prop} {ρ : Id4 → Nat} {L L' : List Id4} (hL : LE L' L) (hn : L'.Nodup) (h : va_D A (wsA ρ L)) : va_D A (wsA ρ L') := by
  refine ⟨fun i j x y hx hy e => ?_, fun k x hx => ?_⟩
  · unfold wsA at hx hy
    rw [List.getElem?_map] at hx hy
    cases hq : L'[i]? with
    | none => rw [hq] at hx; cases hx
    | some q =>
      cases hq' : L'[j]? with
      | none => rw [hq'] at hy; cases hy
      | some q' =>
        rw [hq] at hx
        rw [hq'] at hy
        cases hx
        cases hy
        have e2 := D_inj h (hL q (List.mem_of_getElem? hq)) (hL q' (List.mem_of_getElem? hq')) e
        subst e2
        obtain ⟨l1, e1⟩ := List.getElem?_eq_some_iff.mp hq
        obtain ⟨l2, e2⟩ := List.getElem?_eq_some_iff.mp hq'
        rcases Nat.lt_trichotomy i j with z | z | z
        · exact absurd (e1.trans e2.symm) (List.pairwise_iff_getElem.mp hn i j l1 l2 z)
        · exact z
        · exact absurd (e2.trans e1.symm) (List.pairwise_iff_getElem.mp hn j i l2 l1 z)
  · unfold wsA at hx
    rw [List.getElem?_map] at hx
    cases hq : L'[k]? with
    | none => rw [hq] at hx; cases hx
    | some q =>
      rw [hq] at hx
      cases hx
      exact wsA_D h q (hL q (List.mem_of_getElem? hq))
theorem ZZ.ag {ρ ρ' : Id4 → Nat} {A : Nat → Prop} {s : State} (h : ∀ x, 20 ≤ x.1 → ρ' x = ρ x) (hZ : ZZ ρ A s) : ZZ ρ' A s := by
  obtain ⟨h1, h2, h3, h4, h5, h6, ⟨h7, h9⟩, h8⟩ := hZ
  have e1 : (fun i : Nat => ρ' (20, (i : Int), 0, 0)) = fun i : Nat => ρ (20, (i : Int), 0, 0) := funext fun i => h _ (Nat.le_of_ble_eq_true rfl)
  have e2 : (fun i : Nat => ρ' (21, (i : Int), 0, 0)) = fun i : Nat => ρ (21, (i : Int), 0, 0) := funext fun i => h _ (Nat.le_of_ble_eq_true rfl)
  refine ⟨h1, h2, h3, h4, fun x hx => ?_, ?_, ⟨h7, ?_⟩, h8⟩
  · rw [h (20, x.2.2.2, 0, 0) (Nat.le_of_ble_eq_true rfl)]; exact h5 x hx
  · rw [e1, e2]; exact h6
  · unfold ZF; rw [h (22, 0, 0, 0) (Nat.le_of_ble_eq_true rfl)]; exact h9
/-- private methods of a class above -/
def PL : List MethodName := [yJ5_ensureCapacityInternal_d00df, yJ5_newCapacity_0f7a4, yJ5_putStringAt_47b60, yJ5_inflateIfNeededFor_a7421]
def YY (sx : Sx) (ρ : Id4 → Nat) (A : Nat → Prop) (s : State) : Prop := NV s ∧ (va_Nw (.castable "[B" "java/lang/Cloneable") s ∧ ∀ x ∈ PL, va_Nw (.privateMethod x) s) ∧ (va_Z "java/lang/Integer" "DigitOnes" "[B" (.ref (ρ (23, 0, 0, 0))) A s s.heap ∧ va_T .byte (ρ (23, 0, 0, 0)) 100 (fun j => .int (Int32.ofInt (48 + (j : Int) % 10))) A s s.heap) ∧ (va_Z "java/lang/Integer" "DigitTens" "[B" (.ref (ρ (23, 1, 0, 0))) A s s.heap ∧ va_T .byte (ρ (23, 1, 0, 0)) 100 (fun j => .int (Int32.ofInt (48 + (j : Int) / 10))) A s s.heap) ∧ (va_X (ρ (30, 0, 0, 0)) sx.1 sx.2 s s.heap ∧ ρ (30, 0, 0, 0) < s.heap.size ∧ ¬ A (ρ (30, 0, 0, 0)) ∧ sx.1 ≤ 260)
theorem YY.ag {sx : Sx} {ρ ρ' : Id4 → Nat} {A : Nat → Prop} {s : State} (h : ∀ x, 20 ≤ x.1 → ρ' x = ρ x) (hY : YY sx ρ A s) : YY sx ρ' A s := by
  unfold YY
  rw [h (23, 0, 0, 0) (Nat.le_of_ble_eq_true rfl), h (23, 1, 0, 0) (Nat.le_of_ble_eq_true rfl), h (30, 0, 0, 0) (Nat.le_of_ble_eq_true rfl)]
  exact hY
theorem va_X.moved9 {b L : Nat} {xs : Nat → Int32} {u U : State} {H : Heap} (hvm : u.vm.Alike U.vm) (h : va_X b L xs u H) : va_X b L xs U H := by
  obtain ⟨scr, h1, h2, h3⟩ := h
  exact ⟨scr, h1, State.isArrayOf_alike hvm h2, h3⟩
theorem YY.same {sx : Sx} {ρ : Id4 → Nat} {A : Nat → Prop} {s t : State} (hvm : s.vm = t.vm) (hh : t.heap = s.heap) (h : YY sx ρ A s) : YY sx ρ A t := by
  obtain ⟨h1, h2, ⟨h3, h4⟩, ⟨h5, h6⟩, h7, h8, h9, h10⟩ := h
  unfold YY
  rw [hh]
  have ha : s.vm.Alike t.vm := hvm ▸ Vm.Alike.refl s.vm
  exact ⟨NV.same hvm h1, ⟨va_Nw.same rfl hvm h2.1, fun x hx => va_Nw.same rfl hvm (h2.2 x hx)⟩, ⟨va_Z.moved ha h3, va_T.moved ha h4⟩, ⟨va_Z.moved ha h5, va_T.moved ha h6⟩, va_X.moved9 ha h7, h8, h9, h10⟩
theorem YY.call {sx : Sx} {ρ : Id4 → Nat} {A B : Nat → Prop} {s t : State} {H : Heap} (hW : s.WarmedH t.vm) (hh : t.heap = H) (hsz : s.heap.size ≤ H.size) (hk : ∀ a : Nat, a < s.heap.size → ¬ A a → H[a]? = s.heap[a]?) (hn : ∀ q, B q → A q) (h : YY sx ρ A s) : YY sx ρ B t := by
  obtain ⟨h1, h2, ⟨h3, h4⟩, ⟨h5, h6⟩, h7, h8, h9, h10⟩ := h
  unfold YY
  rw [hh]
  have ha : s.vm.Alike t.vm := hW.alike
  refine ⟨NV.warm hW h1, ⟨va_tabs rfl (rfl : (s.setVm t.vm).vm = t.vm) (by rw [Cond.castable_setVm hW.alike]; exact h2.1), fun x hx => va_tabs rfl (rfl : (s.setVm t.vm).vm = t.vm) (by rw [Cond.privateMethod_setVm hW.alike]; exact h2.2 x hx)⟩, ⟨va_Z.moved ha ((h3.kept hk).narrow hn), va_T.moved ha ((h4.kept hk).narrow hn)⟩, ⟨va_Z.moved ha ((h5.kept hk).narrow hn), va_T.moved ha ((h6.kept hk).narrow hn)⟩, ?_, Nat.lt_of_lt_of_le h8 hsz, fun z => h9 (hn _ z), h10⟩
  obtain ⟨scr, q1, q2, q3⟩ := h7
  exact ⟨scr, by rw [hk _ h8 h9]; exact q1, State.isArrayOf_alike ha q2, q3⟩
abbrev Gd : Type := va_G × (Nat → ClassId) × (Nat → Prop) × Nat × Sx
def DW (X : Cx) (G : Gd) (ρ0 : Id4 → Nat) (L0 L : List Id4) (pc : Nat) (lv st : List AV) (σ : Hp) (u : Nat) (Q : State → Prop) : Prop :=
  match X, G with
  | (p, l, e, R, s, m, args, below, meth, c), (g, cy, A, nL, sx) =>
    ∀ (ρ : Id4 → Nat), AGd L0 ρ0 ρ → LE L0 L → ∀ (H : Heap) (locs : List Loc) (ls : Array Slot), va_P g vwCl (wsOf ρ cy L σ) H → va_D A (wsA ρ L) → DI sx L σ → RFd L lv → RFd L st → va_S A s.heap H locs → LH ρ ls nL lv → W p l e R s m args below meth c H locs u (64 * u) Q (F0 m pc ls (st.map (cv ρ)))
def FD (X : Cx) (G : Gd) (ρ0 : Id4 → Nat) (cc : ByteArray) (own : String) (ret : Option FieldType) (d U : Nat) : Prop :=
  match X, G with
  | (p, l, _, R, s, m, args, _, meth, c), (g, cy, A, nL, sx) =>
    p.tables.exec = Jvm.exec ∧ c.code = cc ∧ c.maxLocals = nL ∧ s.vm.findClass own = some m.cls ∧ (∀ w ∈ Gw, w.before args s = true) ∧ va_K g vwCl (tysOf cy) s ∧ (∀ q, s.heap.size ≤ q → A q) ∧ meth.locks = false ∧ meth.sig.returnType = ret ∧ R = rmOf d U ∧ l.stackTraces = false ∧ ZZ ρ0 A s ∧ YY sx ρ0 A s
/-- contracts -/
def WRd (sx : Sx) (g : va_G) (cy : Nat → ClassId) (ρ : Id4 → Nat) (L : List Id4) (σ : Hp) (sz : Nat) (S : State) : Prop := S.heap.size = sz ∧ va_P g vwCl (wsOf ρ cy L σ) S.heap ∧ va_K g vwCl (tysOf cy) S ∧ va_D (fun _ => True) (wsA ρ L) ∧ DI sx L σ ∧ ZZ ρ (Aof ρ L sz) S ∧ YY sx ρ (Aof ρ L sz) S
abbrev UD : Type := List Id4 × Hp × (Id4 → Nat)
def WBd (g : va_G) (cy : Nat → ClassId) (A : Nat → Prop) (w : UD) (t : State) : Prop := va_P g vwCl (wsOf w.2.2 cy w.1 w.2.1) t.heap ∧ va_D A (wsA w.2.2 w.1) ∧ va_K g vwCl (tysOf cy) t
def PWd (sx : Sx) (ρ : Id4 → Nat) (L : List Id4) (w : UD) : Prop := AGd L ρ w.2.2 ∧ LE L w.1 ∧ DI sx w.1 w.2.1
def QId (sx : Sx) (g : va_G) (cy : Nat → ClassId) (ρ : Id4 → Nat) (A : Nat → Prop) (L : List Id4) (Q : Int → List Id4 → Hp → Prop) : Array Value → State → Outcome → State → Prop := va_Qi (fun (r : Int32) (u : Int × UD) => r = Int32.ofInt u.1 ∧ Q u.1 u.2.1 u.2.2.1 ∧ PWd sx ρ L u.2) (fun u t => WBd g cy A u.2 t) A
def QVd (sx : Sx) (g : va_G) (cy : Nat → ClassId) (ρ : Id4 → Nat) (A : Nat → Prop) (L : List Id4) (Q : List Id4 → Hp → Prop) : Array Value → State → Outcome → State → Prop := va_Qv (fun (u : UD) => Q u.1 u.2.1 ∧ PWd sx ρ L u) (fun u t => WBd g cy A u t) A
def QRd (sx : Sx) (g : va_G) (cy : Nat → ClassId) (ρ : Id4 → Nat) (A : Nat → Prop) (L : List Id4) (Q : Id4 → List Id4 → Hp → Prop) : Array Value → State → Outcome → State → Prop := va_Qr (fun (u : Id4 × UD) => Q u.1 u.2.1 u.2.2.1 ∧ PWd sx ρ L u.2 ∧ inK u.2.1 u.1) (fun u a t => a = u.2.2.2 u.1 ∧ WBd g cy A u.2 t) A
def CdI (sx : Sx) (d U : Nat) (y : MethodName) (bc : ByteArray) (mL : Nat) (ret : Option FieldType) (args : List AV) (L : List Id4) (σ : Hp) (Q : Int → List Id4 → Hp → Prop) : Prop :=
  ∀ (l : Launch) (g : va_G) (cy : Nat → ClassId) (ρ : Id4 → Nat) (sz : Nat), l.stackTraces = false → RFd L args → Met l y (Cond.code y bc mL ret :: Gw) (rmOf d U) (va_Pc (args.map (cv ρ)) (WRd sx g cy ρ L σ sz)) (QId sx g cy ρ (Aof ρ L sz) L Q) U (64 * U) (Aof ρ L sz)
def CdV (sx : Sx) (d U : Nat) (y : MethodName) (bc : ByteArray) (mL : Nat) (ret : Option FieldType) (args : List AV) (L : List Id4) (σ : Hp) (Q : List Id4 → Hp → Prop) : Prop :=
  ∀ (l : Launch) (g : va_G) (cy : Nat → ClassId) (ρ : Id4 → Nat) (sz : Nat), l.stackTraces = false → RFd L args → Met l y (Cond.code y bc mL ret :: Gw) (rmOf d U) (va_Pc (args.map (cv ρ)) (WRd sx g cy ρ L σ sz)) (QVd sx g cy ρ (Aof ρ L sz) L Q) U (64 * U) (Aof ρ L sz)
def CdR (sx : Sx) (d U : Nat) (y : MethodName) (bc : ByteArray) (mL : Nat) (ret : Option FieldType) (args : List AV) (L : List Id4) (σ : Hp) (Q : Id4 → List Id4 → Hp → Prop) : Prop :=
  ∀ (l : Launch) (g : va_G) (cy : Nat → ClassId) (ρ : Id4 → Nat) (sz : Nat), l.stackTraces = false → RFd L args → Met l y (Cond.code y bc mL ret :: Gw) (rmOf d U) (va_Pc (args.map (cv ρ)) (WRd sx g cy ρ L σ sz)) (QRd sx g cy ρ (Aof ρ L sz) L Q) U (64 * U) (Aof ρ L sz)
def EId (X : Cx) (G : Gd) (ρ : Id4 → Nat) (L : List Id4) (U : Nat) (Q : Int → List Id4 → Hp → Prop) : State → Prop := match X, G with
  | (_, _, _, _, s, _, args, below, _, _), (g, cy, A, _, sx) => MQ below (QId sx g cy ρ A L Q) args s U (64 * U) A
def EVd (X : Cx) (G : Gd) (ρ : Id4 → Nat) (L : List Id4) (U : Nat) (Q : List Id4 → Hp → Prop) : State → Prop := match X, G with
  | (_, _, _, _, s, _, args, below, _, _), (g, cy, A, _, sx) => MQ below (QVd sx g cy ρ A L Q) args s U (64 * U) A
def ERd (X : Cx) (G : Gd) (ρ : Id4 → Nat) (L : List Id4) (U : Nat) (Q : Id4 → List Id4 → Hp → Prop) : State → Prop := match X, G with
  | (_, _, _, _, s, _, args, below, _, _), (g, cy, A, _, sx) => MQ below (QRd sx g cy ρ A L Q) args s U (64 * U) A
def INd (X : Cx) : Prop := match X with
  | (_, _, _, _, _, _, _, _, meth, _) => meth.name = "<init>"
theorem CdI.mk {sx : Sx} {d U : Nat} {y : MethodName} {bc : ByteArray} {mL : Nat} {ret : Option FieldType} {args : List AV} {L : List Id4} {σ : Hp} {Q : Int → List Id4 → Hp → Prop} (hy : plainFor y = true) (hw : narrowArgs args = true) (hn : args.length ≤ mL) (h : ∀ (X : Cx) (G : Gd) (ρ : Id4 → Nat), FD X G ρ bc y.cls ret d U → G.2.2.2.1 = mL → G.2.2.2.2 = sx → DW X G ρ L L 0 (args ++ List.replicate (mL - args.length) aX) [] σ 0 (EId X G ρ L U Q)) : CdI sx d U y bc mL ret args L σ Q := by
  intro l g cy ρ sz htr hrf
  refine va_MetF (cc := bc) (maxL := mL) (ret := ret) hy rfl ?_
  intro p e s m args' below meth c s₁ B hml hv
  obtain ⟨rfl, hsz, hP, hK, hD0, hI, hZ, hY⟩ := hv
  subst hsz
  have hts := atoms_spec (ws := Cond.code y bc mL ret :: Gw) B.pre
  have F : FD (p, l, e, rmOf d U, s, m, (args.map (cv ρ)).toArray, below, meth, c) (g, cy, Aof ρ L s.heap.size, mL, sx) ρ bc y.cls ret d U :=
    ⟨B.exec, B.bytes, hml, findClass_of_methodNamed B.named, fun w h => hts w (List.mem_cons_of_mem _ h), hK, Aof_hA, B.notSynchronized, B.returns, rfl, htr, hZ, hY⟩
  have k := h _ _ ρ F rfl rfl ρ AGd.rf LE.rf s.heap [] _ hP (Aof_D hD0) hI (hrf.ent) RFd.nil va_S.rf (lh_entry (ρ := ρ) hw hn)
  rw [lg_entry_eq]
  exact k
theorem CdV.mk {sx : Sx} {d U : Nat} {y : MethodName} {bc : ByteArray} {mL : Nat} {ret : Option FieldType} {args : List AV} {L : List Id4} {σ : Hp} {Q : List Id4 → Hp → Prop} (hy : plainFor y = true) (hw : narrowArgs args = true) (hn : args.length ≤ mL) (h : ∀ (X : Cx) (G : Gd) (ρ : Id4 → Nat), FD X G ρ bc y.cls ret d U → G.2.2.2.1 = mL → G.2.2.2.2 = sx → DW X G ρ L L 0 (args ++ List.replicate (mL - args.length) aX) [] σ 0 (EVd X G ρ L U Q)) : CdV sx d U y bc mL ret args L σ Q := by
  intro l g cy ρ sz htr hrf
  refine va_MetF (cc := bc) (maxL := mL) (ret := ret) hy rfl ?_
  intro p e s m args' below meth c s₁ B hml hv
  obtain ⟨rfl, hsz, hP, hK, hD0, hI, hZ, hY⟩ := hv
  subst hsz
  have hts := atoms_spec (ws := Cond.code y bc mL ret :: Gw) B.pre
  have F : FD (p, l, e, rmOf d U, s, m, (args.map (cv ρ)).toArray, below, meth, c) (g, cy, Aof ρ L s.heap.size, mL, sx) ρ bc y.cls ret d U :=
    ⟨B.exec, B.bytes, hml, findClass_of_methodNamed B.named, fun w h => hts w (List.mem_cons_of_mem _ h), hK, Aof_hA, B.notSynchronized, B.returns, rfl, htr, hZ, hY⟩
  have k := h _ _ ρ F rfl rfl ρ AGd.rf LE.rf s.heap [] _ hP (Aof_D hD0) hI (hrf.ent) RFd.nil va_S.rf (lh_entry (ρ := ρ) hw hn)
  rw [lg_entry_eq]
  exact k
theorem CdR.mk {sx : Sx} {d U : Nat} {y : MethodName} {bc : ByteArray} {mL : Nat} {ret : Option FieldType} {args : List AV} {L : List Id4} {σ : Hp} {Q : Id4 → List Id4 → Hp → Prop} (hy : plainFor y = true) (hw : narrowArgs args = true) (hn : args.length ≤ mL) (h : ∀ (X : Cx) (G : Gd) (ρ : Id4 → Nat), FD X G ρ bc y.cls ret d U → G.2.2.2.1 = mL → G.2.2.2.2 = sx → DW X G ρ L L 0 (args ++ List.replicate (mL - args.length) aX) [] σ 0 (ERd X G ρ L U Q)) : CdR sx d U y bc mL ret args L σ Q := by
  intro l g cy ρ sz htr hrf
  refine va_MetF (cc := bc) (maxL := mL) (ret := ret) hy rfl ?_
  intro p e s m args' below meth c s₁ B hml hv
  obtain ⟨rfl, hsz, hP, hK, hD0, hI, hZ, hY⟩ := hv
  subst hsz
  have hts := atoms_spec (ws := Cond.code y bc mL ret :: Gw) B.pre
  have F : FD (p, l, e, rmOf d U, s, m, (args.map (cv ρ)).toArray, below, meth, c) (g, cy, Aof ρ L s.heap.size, mL, sx) ρ bc y.cls ret d U :=
    ⟨B.exec, B.bytes, hml, findClass_of_methodNamed B.named, fun w h => hts w (List.mem_cons_of_mem _ h), hK, Aof_hA, B.notSynchronized, B.returns, rfl, htr, hZ, hY⟩
  have k := h _ _ ρ F rfl rfl ρ AGd.rf LE.rf s.heap [] _ hP (Aof_D hD0) hI (hrf.ent) RFd.nil va_S.rf (lh_entry (ρ := ρ) hw hn)
  rw [lg_entry_eq]
  exact k
theorem CdV.mkI {sx : Sx} {d U : Nat} {y : MethodName} {bc : ByteArray} {mL : Nat} {ret : Option FieldType} {args : List AV} {L : List Id4} {σ : Hp} {Q : List Id4 → Hp → Prop} (hy : plainFor y = true) (hn9 : y.name = "<init>") (hw : narrowArgs args = true) (hn : args.length ≤ mL) (h : ∀ (X : Cx) (G : Gd) (ρ : Id4 → Nat), FD X G ρ bc y.cls ret d U → INd X → G.2.2.2.1 = mL → G.2.2.2.2 = sx → DW X G ρ L L 0 (args ++ List.replicate (mL - args.length) aX) [] σ 0 (EVd X G ρ L U Q)) : CdV sx d U y bc mL ret args L σ Q := by
  intro l g cy ρ sz htr hrf
  refine va_MetF (cc := bc) (maxL := mL) (ret := ret) hy rfl ?_
  intro p e s m args' below meth c s₁ B hml hv
  obtain ⟨rfl, hsz, hP, hK, hD0, hI, hZ, hY⟩ := hv
  subst hsz
  have hts := atoms_spec (ws := Cond.code y bc mL ret :: Gw) B.pre
  have F : FD (p, l, e, rmOf d U, s, m, (args.map (cv ρ)).toArray, below, meth, c) (g, cy, Aof ρ L s.heap.size, mL, sx) ρ bc y.cls ret d U :=
    ⟨B.exec, B.bytes, hml, findClass_of_methodNamed B.named, fun w h => hts w (List.mem_cons_of_mem _ h), hK, Aof_hA, B.notSynchronized, B.returns, rfl, htr, hZ, hY⟩
  have hin : meth.name = "<init>" := (name_of_methodNamed B.named B.method).1.trans hn9
  have k := h _ _ ρ F hin rfl rfl ρ AGd.rf LE.rf s.heap [] _ hP (Aof_D hD0) hI (hrf.ent) RFd.nil va_S.rf (lh_entry (ρ := ρ) hw hn)
  rw [lg_entry_eq]
  exact k
theorem WRd_blind {sx : Sx} {g : va_G} {cy : Nat → ClassId} {ρ : Id4 → Nat} {L : List Id4} {σ : Hp} {sz : Nat} {av : List Value} : FrameBlind (va_Pc av (WRd sx g cy ρ L σ sz)) := by
  intro a U g9 mk q
  obtain ⟨q0, q1, q2, q3, q4, q5, q6, q7⟩ := q
  exact ⟨q0, q1, q2, va_K.moved (u := U) (U := U.calling g9 mk a) (Vm.Alike.refl U.vm) q3, q4, q5, ZZ.same (t := U.calling g9 mk a) rfl rfl q6, YY.same (t := U.calling g9 mk a) rfl rfl q7⟩
theorem Aof_A {A : Nat → Prop} {ρ : Id4 → Nat} {L : List Id4} {n m : Nat} (hD : va_D A (wsA ρ L)) (hA : ∀ q, n ≤ q → A q) (hn : n ≤ m) : ∀ q, Aof ρ L m q → A q := fun q h => h.elim (fun ⟨i, hi, he⟩ => he ▸ wsA_D hD i hi) (fun h => hA q (Nat.le_trans hn h))
theorem WRd_call {sx : Sx} {s U : State} {A : Nat → Prop} {g : va_G} {cy : Nat → ClassId} {ρ0 ρ : Id4 → Nat} {L0 L : List Id4} {σ : Hp} {H : Heap} {locs : List Loc} (hK : va_K g vwCl (tysOf cy) s) (hD : va_D A (wsA ρ L)) (hA : ∀ q, s.heap.size ≤ q → A q) (hρ : AGd L0 ρ0 ρ) (hZ : ZZ ρ0 A s) (hY : YY sx ρ0 A s) (hI : DI sx L σ) (hP : va_P g vwCl (wsOf ρ cy L σ) H) (hS : va_S A s.heap H locs) (hU : U.heap = H) (hW : s.WarmedH U.vm) : WRd sx g cy ρ L σ H.size U := by
  have hn := Aof_A hD hA hS.1
  have hr : ∀ x : Id4, 20 ≤ x.1 → ρ x = ρ0 x := fun x hx => hρ x (Or.inr hx)
  exact ⟨by rw [hU], by rw [hU]; exact hP, va_K.moved hW.alike hK, hD.weaken (fun _ _ _ _ => trivial), hI, ZZ.call hW hU (fun a h1 h2 => hS.2.1 a h1 h2) hn (hZ.ag hr), YY.call hW hU hS.1 (fun a h1 h2 => hS.2.1 a h1 h2) hn (hY.ag hr)⟩
/-- a private method of a class above, of which no row of the tables says that it is chosen -/
theorem selP {C : String} {c : ClassId} {x : MethodName} {s : State} {args : Array Value} (hc : s.vm.findClass C = some c) (hsame : (Cond.sameMethod x.cls x.cls x.name x.desc).before args s = true) (hpriv : (Cond.privateMethod x).before args s = true) (hinst : (Cond.instanceMethod x).before args s = true) : (Cond.selects C x x).before args s = true := by
  obtain ⟨mk, methM, hnamed, hmethM, -, -⟩ := Cond.instanceMethod_spec hinst
  have hsel : selectMethod {} s.vm c mk = .method mk := selectMethod_private hmethM (Cond.privateMethod_at hpriv mk methM hnamed hmethM)
  have hx : (⟨x.cls, x.name, x.desc⟩ : MethodName) = x := rfl
  simp only [Cond.before, Cond.holds, Cond.value, hx, hnamed] at hsame
  cases hcx : s.vm.findClass x.cls with
  | none => simp [hcx] at hsame
  | some cx =>
    cases hf : s.methodFound? x.cls x.name x.desc with
    | none => simp [hcx, hf] at hsame
    | some r =>
      simp only [hcx, hf] at hsame
      have hmk : mk.cls = cx := Option.some.inj ((findClass_of_methodNamed hnamed).symm.trans hcx)
      simp at hsame
      obtain ⟨h1, h2⟩ := hsame
      subst h1
      simp only [Cond.before, Cond.holds, Cond.value, hc, hf, hnamed, hsel, hmk]
      simp [h2]
def MLU (own : String) (idx : Nat) (x y : MethodName) (bc : ByteArray) (mL : Nat) (ret : Option FieldType) (n : Nat) : Prop :=
  (x.cls ≠ "java/lang/invoke/MethodHandle" ∧ x.cls ≠ "java/lang/invoke/VarHandle" ∧ (parseMethodDescriptor x.desc).map (fun d => d.parameters.length) = some n) ∧ mL ≤ 40 ∧ Cond.methodLink own idx x ∈ Gw ∧ Cond.sameMethod x.cls x.cls x.name x.desc ∈ Gw ∧ (Cond.selects RJ4 x y ∈ Gw ∨ (x = y ∧ x ∈ PL)) ∧ (∃ b m r, Cond.code x b m r ∈ Gw) ∧ Cond.instanceMethod x ∈ Gw ∧ Cond.instanceMethod y ∈ Gw ∧ Cond.initialized y.cls ∈ Gw ∧ Cond.code y bc mL ret ∈ Gw
theorem MLU.cw {own : String} {idx : Nat} {x y : MethodName} {bc : ByteArray} {mL : Nat} {ret : Option FieldType} {n d d2 U U2 : Nat} {s : State} {args : Array Value} {g : va_G} {cy : Nat → ClassId} (h : MLU own idx x y bc mL ret n) (hts : ∀ w ∈ Gw, w.before args s = true) (hK : va_K g vwCl (tysOf cy) s) (hPL : ∀ x ∈ PL, va_Nw (.privateMethod x) s) (hd : d2 + 1 ≤ d) : va_CU (rmOf d U) s args own RJ4 x.cls idx x y bc mL ret (Cond.code y bc mL ret :: Gw) (rmOf d2 U2) U2 (64 * U2) n := by
  obtain ⟨h1, h2, h3, h4, h5, ⟨b, m, r, h6⟩, h7, h8, h9, h10⟩ := h
  refine ⟨⟨rfl, rfl, hd, by show 8 + (mL + 11) + 80 * d2 ≤ 80 * d; omega, pay_in hts (gwIn (gwCons h10)), List.mem_cons_self⟩, hts _ h10, hts _ h9, ⟨h1.1, h1.2.1⟩, fun sig hs => ?_, hts _ h3, hts _ h4, va_Decl.of (hts _ h7) (hts _ h6), ?_, hts _ h8⟩
  · have h2 := h1.2.2
    rw [hs] at h2
    exact (Option.some.inj h2).symm
  · rcases h5 with h5 | ⟨rfl, h5⟩
    · exact hts _ h5
    · exact selP (hK.1 11 (RJ4, TJ4, 4) rfl).2.1 (hts _ h4) ((hPL _ h5).use rfl) (hts _ h7)
def MLSU (own : String) (idx : Nat) (y : MethodName) (bc : ByteArray) (mL : Nat) (ret : Option FieldType) (n : Nat) : Prop :=
  (y.name ≠ "<init>" ∧ (parseMethodDescriptor y.desc).map (fun d => d.parameters.length) = some n) ∧ mL ≤ 40 ∧ Cond.methodLink own idx y ∈ Gw ∧ Cond.sameMethod y.cls y.cls y.name y.desc ∈ Gw ∧ Cond.superclass own y.cls ∈ Gw ∧ Cond.instanceMethod y ∈ Gw ∧ Cond.initialized y.cls ∈ Gw ∧ Cond.code y bc mL ret ∈ Gw
theorem MLSU.cw {own : String} {idx : Nat} {y : MethodName} {bc : ByteArray} {mL : Nat} {ret : Option FieldType} {n d d2 U U2 : Nat} {s : State} {args : Array Value} (h : MLSU own idx y bc mL ret n) (hts : ∀ w ∈ Gw, w.before args s = true) (hd : d2 + 1 ≤ d) : va_CS (rmOf d U) s args own idx y bc mL ret (Cond.code y bc mL ret :: Gw) (rmOf d2 U2) U2 (64 * U2) n := by
  obtain ⟨h1, h2, h3, h4, h5, h6, h7, h8⟩ := h
  refine ⟨⟨rfl, rfl, hd, by show 8 + (mL + 11) + 80 * d2 ≤ 80 * d; omega, pay_in hts (gwIn (gwCons h8)), List.mem_cons_self⟩, hts _ h3, hts _ h4, hts _ h5, hts _ h6, hts _ h7, hts _ h8, h1.1, fun sig hs => ?_⟩
  have h2 := h1.2
  rw [hs] at h2
  exact (Option.some.inj h2).symm
def MLId (own : String) (idx : Nat) (y : MethodName) (bc : ByteArray) (mL n : Nat) : Prop :=
  (y.cls ≠ "java/lang/invoke/MethodHandle" ∧ y.cls ≠ "java/lang/invoke/VarHandle" ∧ (parseMethodDescriptor y.desc).map (fun d => d.parameters.length) = some n) ∧ mL ≤ 40 ∧ Cond.methodLink own idx y ∈ Gw ∧ y.name = "<init>" ∧ Cond.instanceMethod y ∈ Gw ∧ Cond.initialized y.cls ∈ Gw ∧ Cond.code y bc mL none ∈ Gw
