/-! 9a: objects in the making: the cells come one after another, in the order of Lord -/
def cells (t : Nat) (i : Int) (cs : List Nat) : List Id4 := cs.map fun c => (t, i, c, 0)
def rws (t : Nat) (i : Int) (c N : Nat) : List Id4 := (List.range N).map fun (j : Nat) => (t, i, c, (j : Int))
def Lplan (i : Int) : List Id4 := cells 5 i [0, 4, 5, 6, 7, 8, 9]
def Lnames (i : Int) : List Id4 := cells 3 i [0, 1] ++ rws 3 i 11 6 ++ cells 3 i [2]
def Lord : List Id4 := cells 8 0 [0, 1] ++ (cells 6 0 [0] ++ Lplan 2 ++ Lnames 1 ++ cells 6 0 [5]) ++ Lnames 0 ++ Lplan 0 ++ Lplan 1 ++ (cells 2 0 [0, 1] ++ (List.range 10).flatMap fun (k : Nat) => Lplan (3 + (k : Int))) ++ cells 1 0 [0, 2] ++ (cells 0 0 [0, 2, 3] ++ rws 0 0 13 14 ++ cells 0 0 [4] ++ rws 0 0 14 14 ++ cells 0 0 [5, 6]) ++ (cells 7 0 [0, 2] ++ cells 1 1 [0, 2] ++ cells 7 0 [4] ++ rws 7 0 14 36 ++ cells 7 0 [5] ++ rws 7 0 15 6 ++ cells 7 0 [6, 7]) ++ cells 4 0 [0, 1]
theorem Lord_nodup : Lord.Nodup := by decide +kernel
def smK (q : Id4) : Bool := match kd q with
  | .inr (e, n) => decide (n ≤ 910) && decide (e ≤ 7)
  | _ => true
theorem Lord_small : Lord.all smK = true := by decide +kernel
theorem kd_L {q : Id4} {e n : Nat} (hL : q ∈ Lord) (h : kd q = .inr (e, n)) : n ≤ 910 ∧ e ≤ 7 := by
  have h1 := List.all_eq_true.mp Lord_small q hL
  unfold smK at h1
  rw [h] at h1
  simpa using h1
theorem Lord_sub : ∀ q ∈ Lall, q ∈ Lord := by decide +kernel
theorem Lnd {n : Nat} : (Lord.take n).Nodup := Lord_nodup.sublist (List.take_sublist _ _)
theorem take_le {n m : Nat} {q : Id4} (h : n ≤ m) (hq : q ∈ Lord.take n) : q ∈ Lord.take m := (List.take_subset_take_left Lord h) hq
theorem take_at {n : Nat} {q : Id4} (h : Lord[n]? = some q) : Lord.take (n + 1) = Lord.take n ++ [q] := by
  rw [List.take_add_one, h]
  rfl
theorem take_in {n : Nat} {q : Id4} (h : Lord[n]? = some q) : q ∈ Lord.take (n + 1) := by
  rw [take_at h]
  exact List.mem_append_right _ List.mem_cons_self
theorem take_not {n m : Nat} {q : Id4} (h : Lord[m]? = some q) (hn : n ≤ m) : q ∉ Lord.take n := by
  intro z
  obtain ⟨i, hi⟩ := List.getElem?_of_mem z
  obtain ⟨l1, e1⟩ := List.getElem?_eq_some_iff.mp h
  obtain ⟨l2, e2⟩ := List.getElem?_eq_some_iff.mp hi
  rw [List.length_take] at l2
  rw [List.getElem_take] at e2
  exact List.pairwise_iff_getElem.mp Lord_nodup i m (by omega) l1 (by omega) (e2.trans e1.symm)
/-- the same addresses, of what there was and of what is no cell -/
def AG (n : Nat) (ρ ρ' : Id4 → Nat) : Prop := ∀ x, (x ∈ Lord.take n ∨ x ∉ Lord) → ρ' x = ρ x
theorem AG.rf {n : Nat} {ρ : Id4 → Nat} : AG n ρ ρ := fun _ _ => rfl
theorem AG.tr {n m : Nat} {ρ ρ1 ρ2 : Id4 → Nat} (hn : n ≤ m) (h1 : AG n ρ ρ1) (h2 : AG m ρ1 ρ2) : AG n ρ ρ2 := fun x hx => (h2 x (hx.imp (take_le hn) id)).trans (h1 x hx)
theorem AG.of {n m : Nat} {q : Id4} {ρ ρ' : Id4 → Nat} (hq : Lord[m]? = some q) (hn : n ≤ m) (h : ∀ x, x ≠ q → ρ' x = ρ x) : AG n ρ ρ' := fun x hx => h x (fun z => by
  subst z
  rcases hx with hx | hx
  · exact take_not hq hn hx
  · exact hx (List.mem_of_getElem? hq))
/-- references lead to what there is -/
def RC (n : Nat) (σ : Hp) : Prop := ∀ q k q2, σ.2 q k = some q2 → q2 ∈ Lord.take n
theorem RC.le {n m : Nat} {σ : Hp} (h : n ≤ m) (hC : RC n σ) : RC m σ := fun q k q2 e => take_le h (hC q k q2 e)
theorem RC.up {n : Nat} {M : Id4 → Int → Int} {Rf : Id4 → Int → Option Id4} {q q2 : Id4} {k : Int} (hC : RC n (M, Rf)) (h : q2 ∈ Lord.take n) : RC n (M, updR Rf q k (some q2)) := fun q' k' q3 e => by
  by_cases z : q' = q ∧ k' = k
  · have e2 : updR Rf q k (some q2) q' k' = some q2 := if_pos z
    rw [show (M, updR Rf q k (some q2)).2 q' k' = some q2 from e2] at e
    cases e
    exact h
  · have e2 : updR Rf q k (some q2) q' k' = Rf q' k' := if_neg z
    exact hC q' k' q3 (by rw [← e]; exact e2.symm)
def RF (n : Nat) : List AV → Prop
  | [] => True
  | v :: r => (∀ x, v = aR x → x ∈ Lord.take n ∨ x ∉ Lord) ∧ RF n r
theorem RF.mem {n : Nat} : ∀ {l : List AV}, RF n l → ∀ v ∈ l, ∀ x, v = aR x → x ∈ Lord.take n ∨ x ∉ Lord
  | [], _, v, hv, _, _ => absurd hv (List.not_mem_nil)
  | w :: r, h, v, hv, x, e => by
    rcases List.mem_cons.mp hv with z | z
    · exact h.1 x (z ▸ e)
    · exact RF.mem h.2 v z x e
theorem cv_ag {n : Nat} {ρ ρ' : Id4 → Nat} (hA : AG n ρ ρ') {v : AV} (h : ∀ x, v = aR x → x ∈ Lord.take n ∨ x ∉ Lord) : cv ρ' v = cv ρ v := by
  rcases v with i | o | i | x | x | x
  · rfl
  · cases o with
    | none => rfl
    | some x =>
      show va_rf (some (ρ' x)) = va_rf (some (ρ x))
      rw [hA x (h x rfl)]
  all_goals rfl
theorem st_ag {n : Nat} {ρ ρ' : Id4 → Nat} (hA : AG n ρ ρ') {st : List AV} (h : RF n st) : st.map (cv ρ') = st.map (cv ρ) := List.map_congr_left fun v hv => cv_ag hA (h.mem v hv)
theorem lh_ag {n nL : Nat} {ρ ρ' : Id4 → Nat} {ls : Array Slot} (hA : AG n ρ ρ') {lv : List AV} (h : RF n lv) (hl : LH ρ ls nL lv) : LH ρ' ls nL lv := ⟨hl.1, hl.2.1, fun i v hi hx => by rw [cv_ag hA (h.mem v (List.mem_of_getElem? hi))]; exact hl.2.2 i v hi hx⟩
theorem ent_ag {n : Nat} {ρ ρ' : Id4 → Nat} {cy : Nat → ClassId} {σ : Hp} {q : Id4} (hA : ∀ x, x ∈ Lord.take n → ρ' x = ρ x) (hC : RC n σ) : ent ρ' cy σ q = ent ρ cy σ q := by
  have e : ∀ k, (σ.2 q k).map ρ' = (σ.2 q k).map ρ := fun k => by
    cases hz : σ.2 q k with
    | none => rfl
    | some q2 => show some (ρ' q2) = some (ρ q2); rw [hA q2 (hC q k q2 hz)]
  unfold ent flds arrs
  simp only [e]
theorem ws_ag {n : Nat} {ρ ρ' : Id4 → Nat} {cy : Nat → ClassId} {σ : Hp} (hA : ∀ x, x ∈ Lord.take n → ρ' x = ρ x) (hC : RC n σ) : wsOf ρ' cy (Lord.take n) σ = wsOf ρ cy (Lord.take n) σ := List.map_congr_left fun q hq => by rw [hA q hq, ent_ag hA hC]
def Gx : Type := va_G × (Nat → ClassId) × (Nat → Prop) × Nat
def BW (X : Cx) (G : Gx) (ρ0 : Id4 → Nat) (n0 nn : Nat) (pc : Nat) (lv st : List AV) (σ : Hp) (u : Nat) (Q : State → Prop) : Prop :=
  match X, G with
  | (p, l, e, R, s, m, args, below, meth, c), (g, cy, A, nL) =>
    ∀ (ρ : Id4 → Nat), AG n0 ρ0 ρ → ∀ (H : Heap) (locs : List Loc) (ls : Array Slot), va_P g vwCl (wsOf ρ cy (Lord.take nn) σ) H → va_D A (wsA ρ (Lord.take nn)) → RC nn σ → va_S A s.heap H locs → LH ρ ls nL lv → W p l e R s m args below meth c H locs u (64 * u) Q (F0 m pc ls (st.map (cv ρ)))
def NV (s : State) : Prop := NW s ∧ va_AO RX5 s ∧ va_AOA .int s ∧ va_AOA .byte s
def FB (X : Cx) (G : Gx) (cc : ByteArray) (own : String) (ret : Option FieldType) (d U : Nat) : Prop :=
  match X, G with
  | (p, l, _, R, s, m, args, _, meth, c), (g, cy, A, nL) =>
    p.tables.exec = Jvm.exec ∧ c.code = cc ∧ c.maxLocals = nL ∧ s.vm.findClass own = some m.cls ∧ (∀ w ∈ Gw, w.before args s = true) ∧ va_K g vwCl (tysOf cy) s ∧ (∀ q, s.heap.size ≤ q → A q) ∧ meth.locks = false ∧ meth.sig.returnType = ret ∧ R = rmOf d U ∧ NV s
def INI (X : Cx) : Prop := match X with
  | (_, _, _, _, _, _, _, _, meth, _) => meth.name = "<init>"
theorem ent_fldR {ρ : Id4 → Nat} {cy : Nat → ClassId} {σ : Hp} {q q2 : Id4} {t k : Nat} (hk : kd q = .inl t) (hf : rfF t k = true) : ent ρ cy (σ.1, updR σ.2 q k (some q2)) q = .inr (t, (flds ρ σ q t).set k (.ref (ρ q2))) := by
  unfold ent
  rw [hk]
  show Sum.inr (t, flds ρ (σ.1, updR σ.2 q k (some q2)) q t) = Sum.inr (t, _)
  congr 2
  apply List.ext_getElem?
  intro j
  unfold flds
  by_cases hj : j = k
  · subst hj
    by_cases hl : j < nfl t
    · rw [List.getElem?_set_self (by simpa using hl), List.getElem?_map, List.getElem?_range hl]
      simp [hf, updR, va_rf]
    · rw [List.getElem?_eq_none (by simpa using hl), List.getElem?_eq_none (by simpa using hl)]
  · rw [List.getElem?_set_ne (Ne.symm hj), List.getElem?_map, List.getElem?_map]
    have e : updR σ.2 q k (some q2) q (j : Int) = σ.2 q (j : Int) := if_neg (fun z => hj (by have := z.2; omega))
    cases hz : (List.range (nfl t))[j]? with
    | none => rfl
    | some j' =>
      have hj' : j' = j := by
        have := List.getElem?_eq_some_iff.mp hz
        obtain ⟨h1, h2⟩ := this
        rw [List.getElem_range] at h2
        exact h2.symm
      subst hj'
      show some _ = some _
      dsimp only
      rw [e]
theorem vaD_app {A : Nat → Prop} {ρ : Id4 → Nat} {L1 L2 : List Id4} {f : Id4 → va_E} {r : va_W} (h : va_D A ((L1.map fun q => (ρ q, f q)) ++ r)) (hr : r.map Prod.fst = L2.map ρ) : va_D A (wsA ρ (L1 ++ L2)) := by
  have key : ∀ (k : Nat) (x : Nat × va_E), (wsA ρ (L1 ++ L2))[k]? = some x → ∃ y, ((L1.map fun q => (ρ q, f q)) ++ r)[k]? = some y ∧ y.1 = x.1 := by
    intro k x hx
    have h1 : ((wsA ρ (L1 ++ L2)).map Prod.fst)[k]? = some x.1 := by rw [List.getElem?_map, hx]; rfl
    have h2 : (wsA ρ (L1 ++ L2)).map Prod.fst = ((L1.map fun q => (ρ q, f q)) ++ r).map Prod.fst := by
      unfold wsA
      rw [List.map_append, List.map_append, List.map_append, hr, List.map_map, List.map_map, List.map_map]
      rfl
    rw [h2, List.getElem?_map] at h1
    cases hz : ((L1.map fun q => (ρ q, f q)) ++ r)[k]? with
    | none => rw [hz] at h1; cases h1
    | some y => rw [hz] at h1; exact ⟨y, rfl, Option.some.inj h1⟩
  refine ⟨fun i j p q hp hq e => ?_, fun k q hq => ?_⟩
  · obtain ⟨y1, h1, e1⟩ := key i p hp
    obtain ⟨y2, h2, e2⟩ := key j q hq
    exact h.1 i j y1 y2 h1 h2 (by rw [e1, e2, e])
  · obtain ⟨y, h1, e1⟩ := key k q hq
    rw [← e1]
    exact h.2 k y h1
/-- one cell more -/
theorem grow {g : va_G} {cy : Nat → ClassId} {A : Nat → Prop} {ρ : Id4 → Nat} {nn a : Nat} {q : Id4} {σ : Hp} {E : va_E} {H1 : Heap} (hq : Lord[nn]? = some q) (hC : RC nn σ) (hP1 : va_P g vwCl (wsOf ρ cy (Lord.take nn) σ ++ [(a, E)]) H1) (hD1 : va_D A (wsOf ρ cy (Lord.take nn) σ ++ [(a, E)])) (hE : ∀ ρ', (∀ x ∈ Lord.take nn, ρ' x = ρ x) → ent ρ' cy σ q = E) : ∃ ρ' : Id4 → Nat, (∀ x, x ≠ q → ρ' x = ρ x) ∧ ρ' q = a ∧ (∀ x ∈ Lord.take nn, ρ' x = ρ x) ∧ va_P g vwCl (wsOf ρ' cy (Lord.take (nn + 1)) σ) H1 ∧ va_D A (wsA ρ' (Lord.take (nn + 1))) := by
  have h1 : ∀ x, x ≠ q → (fun x => if x = q then a else ρ x) x = ρ x := fun x hx => if_neg hx
  have h2 : ∀ x ∈ Lord.take nn, (fun x => if x = q then a else ρ x) x = ρ x := fun x hx => h1 x (fun z => take_not hq (Nat.le_refl _) (z ▸ hx))
  have h3 : (fun x => if x = q then a else ρ x) q = a := if_pos rfl
  refine ⟨fun x => if x = q then a else ρ x, h1, h3, h2, ?_, ?_⟩
  · rw [take_at hq]
    have e : wsOf (fun x => if x = q then a else ρ x) cy (Lord.take nn ++ [q]) σ = wsOf (fun x => if x = q then a else ρ x) cy (Lord.take nn) σ ++ [((fun x => if x = q then a else ρ x) q, ent (fun x => if x = q then a else ρ x) cy σ q)] := by
      unfold wsOf
      rw [List.map_append]
      rfl
    rw [e, ws_ag h2 hC, h3, hE _ h2]
    exact hP1
  · rw [take_at hq]
    rw [← ws_ag h2 hC] at hD1
    exact vaD_app (f := fun q' => ent (fun x => if x = q then a else ρ x) cy σ q') hD1 (by show [a] = [_]; exact congrArg (fun z => [z]) h3.symm)
def setR (R : Id4 → Int → Option Id4) (q : Id4) (A : Int → Option Id4) : Id4 → Int → Option Id4 := fun q' => if q' = q then A else R q'
theorem setR_same {R : Id4 → Int → Option Id4} {q : Id4} {A : Int → Option Id4} : setR R q A q = A := if_pos rfl
theorem setR_ne {R : Id4 → Int → Option Id4} {q q' : Id4} {A : Int → Option Id4} (h : q' ≠ q) : setR R q A q' = R q' := if_neg h
def upR (A : Int → Option Id4) (k : Int) (v : Option Id4) : Int → Option Id4 := fun j => if j = k then v else A j
theorem updM_first {M : Id4 → Int → Int} {q : Id4} {A : Int → Int} {k v : Int} (h : M q = A) : updM M q k v = setA M q (upS A k v) := by
  funext x j
  unfold updM setA upS
  by_cases e : x = q
  · subst e
    rw [if_pos rfl, h]
    by_cases e2 : j = k
    · rw [if_pos ⟨rfl, e2⟩, if_pos e2]
    · rw [if_neg (fun z => e2 z.2), if_neg e2]
  · rw [if_neg (fun z => e z.1), if_neg e]
theorem updM_next {M : Id4 → Int → Int} {q : Id4} {A : Int → Int} {k v : Int} : updM (setA M q A) q k v = setA M q (upS A k v) := by
  rw [updM_first setA_same]
  funext x
  unfold setA
  by_cases e : x = q
  · rw [if_pos e, if_pos e]
  · rw [if_neg e, if_neg e, if_neg e]
theorem updR_first {R : Id4 → Int → Option Id4} {q : Id4} {A : Int → Option Id4} {k : Int} {v : Option Id4} (h : R q = A) : updR R q k v = setR R q (upR A k v) := by
  funext x j
  unfold updR setR upR
  by_cases e : x = q
  · subst e
    rw [if_pos rfl, h]
    by_cases e2 : j = k
    · rw [if_pos ⟨rfl, e2⟩, if_pos e2]
    · rw [if_neg (fun z => e2 z.2), if_neg e2]
  · rw [if_neg (fun z => e z.1), if_neg e]
theorem updR_next {R : Id4 → Int → Option Id4} {q : Id4} {A : Int → Option Id4} {k : Int} {v : Option Id4} : updR (setR R q A) q k v = setR R q (upR A k v) := by
  rw [updR_first setR_same]
  funext x
  unfold setR
  by_cases e : x = q
  · rw [if_pos e, if_pos e]
  · rw [if_neg e, if_neg e, if_neg e]
theorem updR_past {R : Id4 → Int → Option Id4} {q o : Id4} {A : Int → Option Id4} {k : Int} {v : Option Id4} (h : o ≠ q) : updR (setR R o A) q k v = setR (updR R q k v) o A := by
  funext x j
  unfold updR setR
  by_cases e : x = q
  · subst e
    rw [if_neg (Ne.symm h), if_neg (Ne.symm h)]
  · by_cases e2 : x = o
    · rw [if_neg (fun z => e z.1), if_pos e2, if_pos e2]
    · rw [if_neg (fun z => e z.1), if_neg e2, if_neg e2]
      exact (if_neg (fun z => e z.1)).symm
theorem updM_past {M : Id4 → Int → Int} {q o : Id4} {A : Int → Int} {k v : Int} (h : o ≠ q) : updM (setA M o A) q k v = setA (updM M q k v) o A := by
  funext x j
  unfold updM setA
  by_cases e : x = q
  · subst e
    rw [if_neg (Ne.symm h), if_neg (Ne.symm h)]
  · by_cases e2 : x = o
    · rw [if_neg (fun z => e z.1), if_pos e2, if_pos e2]
    · rw [if_neg (fun z => e z.1), if_neg e2, if_neg e2]
      exact (if_neg (fun z => e z.1)).symm
theorem dt_at {nn m : Nat} {l : List Id4} {q : Id4} (h : (Lord.drop nn).take m = l) (j : Nat) (hq : l[j]? = some q) : Lord[nn + j]? = some q := by
  rw [← h, List.getElem?_take] at hq
  split at hq
  · rw [List.getElem?_drop] at hq
    exact hq
  · cases hq
section BROWS
variable {X : Cx} {G : Gx} {cc : ByteArray} {own : String} {ret : Option FieldType} {d U pc u n0 nn : Nat} {lv st : List AV} {M : Id4 → Int → Int} {Rf : Id4 → Int → Option Id4} {Q : State → Prop} {ρ0 : Id4 → Nat}
theorem bw_iconst (F : FB X G cc own ret d U) {n : Int} (hd : decode cc pc = .ok (.iconst n, 1)) (k : BW X G ρ0 n0 nn (pc + 1) lv (aI n :: st) (M, Rf) u Q) : BW X G ρ0 n0 nn pc lv (st) (M, Rf) u Q := by
  obtain ⟨p, l, e, R, s, m, args, below, meth, c⟩ := X
  obtain ⟨g, cy, A, nL⟩ := G
  obtain ⟨hx, hb, hml, hown, hts, hK, hA, hlk, hret, hR, hN⟩ := F
  intro ρ hρ H locs ls hP hD hC hS hl
  exact lv_iconst hx hb hd rfl (k ρ hρ H locs ls hP hD hC hS hl)
theorem bw_bipush (F : FB X G cc own ret d U) {n : Int} (hd : decode cc pc = .ok (.bipush n, 2)) (hv : (Int8.ofInt n).toInt32 = Int32.ofInt n) (k : BW X G ρ0 n0 nn (pc + 2) lv (aI n :: st) (M, Rf) u Q) : BW X G ρ0 n0 nn pc lv (st) (M, Rf) u Q := by
  obtain ⟨p, l, e, R, s, m, args, below, meth, c⟩ := X
  obtain ⟨g, cy, A, nL⟩ := G
  obtain ⟨hx, hb, hml, hown, hts, hK, hA, hlk, hret, hR, hN⟩ := F
  intro ρ hρ H locs ls hP hD hC hS hl
  exact lv_bipush hx hb hd hv (k ρ hρ H locs ls hP hD hC hS hl)
theorem bw_sipush (F : FB X G cc own ret d U) {n : Int} (hd : decode cc pc = .ok (.sipush n, 3)) (hv : (Int16.ofInt n).toInt32 = Int32.ofInt n) (k : BW X G ρ0 n0 nn (pc + 3) lv (aI n :: st) (M, Rf) u Q) : BW X G ρ0 n0 nn pc lv (st) (M, Rf) u Q := by
  obtain ⟨p, l, e, R, s, m, args, below, meth, c⟩ := X
  obtain ⟨g, cy, A, nL⟩ := G
  obtain ⟨hx, hb, hml, hown, hts, hK, hA, hlk, hret, hR, hN⟩ := F
  intro ρ hρ H locs ls hP hD hC hS hl
  exact lv_sipush hx hb hd hv (k ρ hρ H locs ls hP hD hC hS hl)
theorem bw_aload0 (F : FB X G cc own ret d U) {r : List AV} {x : Id4} (hd : decode cc pc = .ok (.aload_n 0, 1)) (k : BW X G ρ0 n0 nn (pc + 1) (aR x :: r) (aR x :: st) (M, Rf) u Q) : BW X G ρ0 n0 nn pc (aR x :: r) (st) (M, Rf) u Q := by
  obtain ⟨p, l, e, R, s, m, args, below, meth, c⟩ := X
  obtain ⟨g, cy, A, nL⟩ := G
  obtain ⟨hx, hb, hml, hown, hts, hK, hA, hlk, hret, hR, hN⟩ := F
  intro ρ hρ H locs ls hP hD hC hS hl
  exact lv_aload_n hx hb hd rfl (hl.2.2 0 (aR x) rfl rfl) (k ρ hρ H locs ls hP hD hC hS hl)
theorem bw_iload1 (F : FB X G cc own ret d U) {a0 : AV} {r : List AV} {x : Int} (hd : decode cc pc = .ok (.iload_n 1, 1)) (k : BW X G ρ0 n0 nn (pc + 1) (a0 :: aI x :: r) (aI x :: st) (M, Rf) u Q) : BW X G ρ0 n0 nn pc (a0 :: aI x :: r) (st) (M, Rf) u Q := by
  obtain ⟨p, l, e, R, s, m, args, below, meth, c⟩ := X
  obtain ⟨g, cy, A, nL⟩ := G
  obtain ⟨hx, hb, hml, hown, hts, hK, hA, hlk, hret, hR, hN⟩ := F
  intro ρ hρ H locs ls hP hD hC hS hl
  exact lv_iload_n hx hb hd rfl (hl.2.2 1 (aI x) rfl rfl) (k ρ hρ H locs ls hP hD hC hS hl)
theorem bw_istore1 (F : FB X G cc own ret d U) {a0 : AV} {r : List AV} {x : Int} {w : AV} (hd : decode cc pc = .ok (.istore_n 1, 1)) (hw : (a0 :: w :: r).all (fun v => !wide v) = true) (hn : (a0 :: w :: r).length = G.2.2.2) (k : BW X G ρ0 n0 nn (pc + 1) (a0 :: aI x :: r) (st) (M, Rf) u Q) : BW X G ρ0 n0 nn pc (a0 :: w :: r) (aI x :: st) (M, Rf) u Q := by
  obtain ⟨p, l, e, R, s, m, args, below, meth, c⟩ := X
  obtain ⟨g, cy, A, nL⟩ := G
  obtain ⟨hx, hb, hml, hown, hts, hK, hA, hlk, hret, hR, hN⟩ := F
  intro ρ hρ H locs ls hP hD hC hS hl
  have hn9 : _ = nL := hn
  refine lv_istore_n (i := 1) hx hb hd rfl (lh_as hl) (by rw [← hn9]; simp only [List.length_cons]; omega) rfl (fun ls' h' => ?_)
  exact k ρ hρ H locs ls' hP hD hC hS (lh_set (i := 1) (v := aI x) hl hw (by simp only [List.length_cons]; omega) h')
theorem bw_iinc1 (F : FB X G cc own ret d U) {a0 : AV} {r : List AV} {x n : Int} (hd : decode cc pc = .ok (.iinc 1 n, 3)) (hw : (a0 :: aI x :: r).all (fun v => !wide v) = true) (hn : (a0 :: aI x :: r).length = G.2.2.2) (k : BW X G ρ0 n0 nn (pc + 3) (a0 :: aI (x + n) :: r) (st) (M, Rf) u Q) : BW X G ρ0 n0 nn pc (a0 :: aI x :: r) (st) (M, Rf) u Q := by
  obtain ⟨p, l, e, R, s, m, args, below, meth, c⟩ := X
  obtain ⟨g, cy, A, nL⟩ := G
  obtain ⟨hx, hb, hml, hown, hts, hK, hA, hlk, hret, hR, hN⟩ := F
  intro ρ hρ H locs ls hP hD hC hS hl
  obtain ⟨j, hj⟩ := lh_mem (i := 1) (v := aI x) hl rfl rfl
  have hn9 : _ = nL := hn
  refine lv_iinc hx hb hd (lh_as hl) hj (v := Int32.ofInt (x + n)) (Int32.ofInt_add x n).symm (by rw [← hn9]; simp only [List.length_cons]; omega) rfl (fun ls' h' => ?_)
  exact k ρ hρ H locs ls' hP hD hC hS (lh_set (i := 1) (v := aI (x + n)) hl hw (by simp only [List.length_cons]; omega) h')
theorem bw_icmp_ge (F : FB X G cc own ret d U) {x y : Int} {off : Int} {tgt : Nat} (hd : decode cc pc = .ok (.if_icmp .ge off, 3)) (ht : (pc : Int) + off = (tgt : Int)) (hx2 : inR x) (hy : inR y) (kt : y ≤ x → BW X G ρ0 n0 nn tgt lv st (M, Rf) u Q) (kf : x < y → BW X G ρ0 n0 nn (pc + 3) lv st (M, Rf) u Q) : BW X G ρ0 n0 nn pc lv (aI y :: aI x :: st) (M, Rf) u Q := by
  obtain ⟨p, l, e, R, s, m, args, below, meth, c⟩ := X
  obtain ⟨g, cy, A, nL⟩ := G
  obtain ⟨hx, hb, hml, hown, hts, hK, hA, hlk, hret, hR, hN⟩ := F
  intro ρ hρ H locs ls hP hD hC hS hl
  exact lv_icmp_ge hx hb hd ht (fun h => kt ((oi_le hy hx2).mp h) ρ hρ H locs ls hP hD hC hS hl) (fun h => kf (Int.not_le.mp (fun z => h ((oi_le hy hx2).mpr z))) ρ hρ H locs ls hP hD hC hS hl)
theorem bw_goto (F : FB X G cc own ret d U) {off : Int} {tgt : Nat} (hd : decode cc pc = .ok (.goto off, 3)) (ht : (pc : Int) + off = (tgt : Int)) (k : BW X G ρ0 n0 nn tgt lv st (M, Rf) u Q) : BW X G ρ0 n0 nn pc lv st (M, Rf) u Q := by
  obtain ⟨p, l, e, R, s, m, args, below, meth, c⟩ := X
  obtain ⟨g, cy, A, nL⟩ := G
  obtain ⟨hx, hb, hml, hown, hts, hK, hA, hlk, hret, hR, hN⟩ := F
  intro ρ hρ H locs ls hP hD hC hS hl
  exact lv_goto hx hb hd ht (k ρ hρ H locs ls hP hD hC hS hl)
theorem bw_dupR (F : FB X G cc own ret d U) {x : Id4} (hd : decode cc pc = .ok (.dup, 1)) (k : BW X G ρ0 n0 nn (pc + 1) lv (aR x :: aR x :: st) (M, Rf) u Q) : BW X G ρ0 n0 nn pc lv (aR x :: st) (M, Rf) u Q := by
  obtain ⟨p, l, e, R, s, m, args, below, meth, c⟩ := X
  obtain ⟨g, cy, A, nL⟩ := G
  obtain ⟨hx, hb, hml, hown, hts, hK, hA, hlk, hret, hR, hN⟩ := F
  intro ρ hρ H locs ls hP hD hC hS hl
  exact lv_dup hx hb hd rfl (k ρ hρ H locs ls hP hD hC hS hl)
theorem bw_getR (F : FB X G cc own ret d U) {q : Id4} {t f idx : Nat} {fz : Int}  {q2 : Id4} (hd : decode cc pc = .ok (.getfield idx, 3)) (hf : FL own idx t f) (hk : kd q = .inl t) (hm : q ∈ Lord.take nn) (hr : rfF t f = true) (hz : (f : Int) = fz) (hq : Rf q fz = some q2) (k : BW X G ρ0 n0 nn (pc + 3) lv (aR q2 :: st) (M, Rf) u Q) : BW X G ρ0 n0 nn pc lv (aR q :: st) (M, Rf) u Q := by
  obtain ⟨p, l, e, R, s, m, args, below, meth, c⟩ := X
  obtain ⟨g, cy, A, nL⟩ := G
  obtain ⟨hx, hb, hml, hown, hts, hK, hA, hlk, hret, hR, hN⟩ := F
  intro ρ hρ H locs ls hP hD hC hS hl
  subst hz
  obtain ⟨r, hr1, hr2, hr3, hr4⟩ := hf
  obtain ⟨i, hi, hi2⟩ := ws_at (ρ := ρ) (cy := cy) (σ := (M, Rf)) hm
  rw [ent_obj hk] at hi2
  exact va_get (fs := flds ρ (M, Rf) q t) hx hb hts (clsOK t r hr1).2 hown hK hP i hi2 hr1 f hr2 (hts _ hr4) (fun _ h => h) (fl_ref (by omega) hr hq) hd (k ρ hρ H locs ls hP hD hC hS hl)
theorem bw_putI (F : FB X G cc own ret d U) {q : Id4} {t f idx : Nat} {fz : Int}  {x : Int} (hd : decode cc pc = .ok (.putfield idx, 3)) (hf : FL own idx t f) (hg : FPI t f) (hk : kd q = .inl t) (hm : q ∈ Lord.take nn) (hr : rfF t f = false) (hz : (f : Int) = fz) (k : BW X G ρ0 n0 nn (pc + 3) lv st (updM M q fz x, Rf) u Q) : BW X G ρ0 n0 nn pc lv (aI x :: aR q :: st) (M, Rf) u Q := by
  obtain ⟨p, l, e, R, s, m, args, below, meth, c⟩ := X
  obtain ⟨g, cy, A, nL⟩ := G
  obtain ⟨hx, hb, hml, hown, hts, hK, hA, hlk, hret, hR, hN⟩ := F
  intro ρ hρ H locs ls hP hD hC hS hl
  subst hz
  obtain ⟨r, hr1, hr2, hr3, hr4⟩ := hf
  obtain ⟨i, hi, hi2⟩ := ws_at (ρ := ρ) (cy := cy) (σ := (M, Rf)) hm
  rw [ent_obj hk] at hi2
  obtain ⟨ty0, hty, hnm⟩ := (clsOK t r hr1).1
  obtain ⟨hg1, hg2⟩ := hg r hr1
  refine va_put (fs := flds ρ (M, Rf) q t) hx hb hts (clsOK t r hr1).2 ty0 hty hnm hown hK hP (wsD hD (M, Rf)) hS i hi2 hr1 f hr2 (hts _ hr4) (fun _ h => h) hg1 hg2 rfl rfl (by rw [fl_len]; omega) hd (fun H1 locs1 hP1 hD1 hS1 => ?_)
  have e9 := ws_set (ρ := ρ) (cy := cy) (σ := (M, Rf)) (σ' := (updM M q (f : Int) x, Rf)) Lnd hi (ent_fld (σ := (M, Rf)) hk hr) (fun q' h => ent_ne (σ := (M, Rf)) h)
  exact k ρ hρ H1 locs1 ls (e9 ▸ hP1) hD hC hS1 hl
theorem bw_iast (F : FB X G cc own ret d U) {q : Id4} {n : Nat} {i : Int}  {x : Int} (hd : decode cc pc = .ok (.iastore, 1)) (hk : kd q = .inr (0, n)) (hm : q ∈ Lord.take nn) (hi : 0 ≤ i ∧ i < n) (k : BW X G ρ0 n0 nn (pc + 1) lv st (updM M q i x, Rf) u Q) : BW X G ρ0 n0 nn pc lv (aI x :: aI i :: aR q :: st) (M, Rf) u Q := by
  obtain ⟨p, l, e, R, s, m, args, below, meth, c⟩ := X
  obtain ⟨g, cy, A, nL⟩ := G
  obtain ⟨hx, hb, hml, hown, hts, hK, hA, hlk, hret, hR, hN⟩ := F
  intro ρ hρ H locs ls hP hD hC hS hl
  obtain ⟨j, hj, hj2⟩ := ws_at (ρ := ρ) (cy := cy) (σ := (M, Rf)) hm
  rw [ent_arr hk] at hj2
  have hs := (kd_L (List.take_subset _ _ hm) hk).1
  refine va_iast (f := fun z => Int32.ofInt (M q (z : Int))) hx hb hK hP (wsD hD (M, Rf)) hS j 0 hj2 rfl (oi_in hi.1 hi.2 (by omega)) hd (fun H1 locs1 hP1 hD1 hS1 => ?_)
  rw [ws_set Lnd hj (ent_upd (σ := (M, Rf)) hk (by decide) hi.1 (by omega)) (fun q' h => ent_ne (σ := (M, Rf)) h)] at hP1
  exact k ρ hρ H1 locs1 ls hP1 hD hC hS1 hl
theorem bw_astore1 (F : FB X G cc own ret d U) {a0 : AV} {r : List AV} {x : Id4} {w : AV} (hd : decode cc pc = .ok (.astore_n 1, 1)) (hw : (a0 :: w :: r).all (fun v => !wide v) = true) (hn : (a0 :: w :: r).length = G.2.2.2) (k : BW X G ρ0 n0 nn (pc + 1) (a0 :: aR x :: r) (st) (M, Rf) u Q) : BW X G ρ0 n0 nn pc (a0 :: w :: r) (aR x :: st) (M, Rf) u Q := by
  obtain ⟨p, l, e, R, s, m, args, below, meth, c⟩ := X
  obtain ⟨g, cy, A, nL⟩ := G
  obtain ⟨hx, hb, hml, hown, hts, hK, hA, hlk, hret, hR, hN⟩ := F
  intro ρ hρ H locs ls hP hD hC hS hl
  have hn9 : _ = nL := hn
  refine lv_astore_n (i := 1) hx hb hd rfl (lh_as hl) (by rw [← hn9]; simp only [List.length_cons]; omega) rfl (fun ls' h' => ?_)
  exact k ρ hρ H locs ls' hP hD hC hS (lh_set (i := 1) (v := aR x) hl hw (by simp only [List.length_cons]; omega) h')
theorem bw_astore2 (F : FB X G cc own ret d U) {a0 a1 : AV} {r : List AV} {x : Id4} {w : AV} (hd : decode cc pc = .ok (.astore_n 2, 1)) (hw : (a0 :: a1 :: w :: r).all (fun v => !wide v) = true) (hn : (a0 :: a1 :: w :: r).length = G.2.2.2) (k : BW X G ρ0 n0 nn (pc + 1) (a0 :: a1 :: aR x :: r) (st) (M, Rf) u Q) : BW X G ρ0 n0 nn pc (a0 :: a1 :: w :: r) (aR x :: st) (M, Rf) u Q := by
  obtain ⟨p, l, e, R, s, m, args, below, meth, c⟩ := X
  obtain ⟨g, cy, A, nL⟩ := G
  obtain ⟨hx, hb, hml, hown, hts, hK, hA, hlk, hret, hR, hN⟩ := F
  intro ρ hρ H locs ls hP hD hC hS hl
  have hn9 : _ = nL := hn
  refine lv_astore_n (i := 2) hx hb hd rfl (lh_as hl) (by rw [← hn9]; simp only [List.length_cons]; omega) rfl (fun ls' h' => ?_)
  exact k ρ hρ H locs ls' hP hD hC hS (lh_set (i := 2) (v := aR x) hl hw (by simp only [List.length_cons]; omega) h')
theorem bw_astore3 (F : FB X G cc own ret d U) {a0 a1 a2 : AV} {r : List AV} {x : Id4} {w : AV} (hd : decode cc pc = .ok (.astore_n 3, 1)) (hw : (a0 :: a1 :: a2 :: w :: r).all (fun v => !wide v) = true) (hn : (a0 :: a1 :: a2 :: w :: r).length = G.2.2.2) (k : BW X G ρ0 n0 nn (pc + 1) (a0 :: a1 :: a2 :: aR x :: r) (st) (M, Rf) u Q) : BW X G ρ0 n0 nn pc (a0 :: a1 :: a2 :: w :: r) (aR x :: st) (M, Rf) u Q := by
  obtain ⟨p, l, e, R, s, m, args, below, meth, c⟩ := X
  obtain ⟨g, cy, A, nL⟩ := G
  obtain ⟨hx, hb, hml, hown, hts, hK, hA, hlk, hret, hR, hN⟩ := F
  intro ρ hρ H locs ls hP hD hC hS hl
  have hn9 : _ = nL := hn
  refine lv_astore_n (i := 3) hx hb hd rfl (lh_as hl) (by rw [← hn9]; simp only [List.length_cons]; omega) rfl (fun ls' h' => ?_)
  exact k ρ hρ H locs ls' hP hD hC hS (lh_set (i := 3) (v := aR x) hl hw (by simp only [List.length_cons]; omega) h')
theorem bw_istore4 (F : FB X G cc own ret d U) {a0 a1 a2 a3 : AV} {r : List AV} {x : Int} {w : AV} (hd : decode cc pc = .ok (.istore 4, 2)) (hw : (a0 :: a1 :: a2 :: a3 :: w :: r).all (fun v => !wide v) = true) (hn : (a0 :: a1 :: a2 :: a3 :: w :: r).length = G.2.2.2) (k : BW X G ρ0 n0 nn (pc + 2) (a0 :: a1 :: a2 :: a3 :: aI x :: r) (st) (M, Rf) u Q) : BW X G ρ0 n0 nn pc (a0 :: a1 :: a2 :: a3 :: w :: r) (aI x :: st) (M, Rf) u Q := by
  obtain ⟨p, l, e, R, s, m, args, below, meth, c⟩ := X
  obtain ⟨g, cy, A, nL⟩ := G
  obtain ⟨hx, hb, hml, hown, hts, hK, hA, hlk, hret, hR, hN⟩ := F
  intro ρ hρ H locs ls hP hD hC hS hl
  have hn9 : _ = nL := hn
  refine lv_istore hx hb hd (lh_as hl) (by rw [← hn9]; simp only [List.length_cons]; omega) rfl (fun ls' h' => ?_)
  exact k ρ hρ H locs ls' hP hD hC hS (lh_set (i := 4) (v := aI x) hl hw (by simp only [List.length_cons]; omega) h')
theorem bw_ldc (F : FB X G cc own ret d U) {idx : Nat} {x : Int} (hd : decode cc pc = .ok (.ldc idx, 2)) (hc : Cond.constant own idx (Int32.ofInt x) ∈ Gw) (k : BW X G ρ0 n0 nn (pc + 2) lv (aI x :: st) (M, Rf) u Q) : BW X G ρ0 n0 nn pc lv st (M, Rf) u Q := by
  obtain ⟨p, l, e, R, s, m, args, below, meth, c⟩ := X
  obtain ⟨g, cy, A, nL⟩ := G
  obtain ⟨hx, hb, hml, hown, hts, hK, hA, hlk, hret, hR, hN⟩ := F
  intro ρ hρ H locs ls hP hD hC hS hl
  exact lv_ldc hx hb hown (hts _ hc) hd (k ρ hρ H locs ls hP hD hC hS hl)
theorem bw_putZ (F : FB X G cc own ret d U) {q : Id4} {t f idx : Nat} {fz : Int}  {x : Int} (hd : decode cc pc = .ok (.putfield idx, 3)) (hf : FL own idx t f) (hg : FPZ t f) (hk : kd q = .inl t) (hm : q ∈ Lord.take nn) (hr : rfF t f = false) (hz : (f : Int) = fz) (h01 : x = 0 ∨ x = 1) (k : BW X G ρ0 n0 nn (pc + 3) lv st (updM M q fz x, Rf) u Q) : BW X G ρ0 n0 nn pc lv (aI x :: aR q :: st) (M, Rf) u Q := by
  obtain ⟨p, l, e, R, s, m, args, below, meth, c⟩ := X
  obtain ⟨g, cy, A, nL⟩ := G
  obtain ⟨hx, hb, hml, hown, hts, hK, hA, hlk, hret, hR, hN⟩ := F
  intro ρ hρ H locs ls hP hD hC hS hl
  subst hz
  obtain ⟨r, hr1, hr2, hr3, hr4⟩ := hf
  obtain ⟨i, hi, hi2⟩ := ws_at (ρ := ρ) (cy := cy) (σ := (M, Rf)) hm
  rw [ent_obj hk] at hi2
  obtain ⟨ty0, hty, hnm⟩ := (clsOK t r hr1).1
  obtain ⟨hg1, hg2⟩ := hg r hr1
  refine va_put (fs := flds ρ (M, Rf) q t) hx hb hts (clsOK t r hr1).2 ty0 hty hnm hown hK hP (wsD hD (M, Rf)) hS i hi2 hr1 f hr2 (hts _ hr4) (fun _ h => h) hg1 hg2 (nar_bool h01) (by rcases h01 with h | h <;> rw [h] <;> rfl) (by rw [fl_len]; omega) hd (fun H1 locs1 hP1 hD1 hS1 => ?_)
  have e9 := ws_set (ρ := ρ) (cy := cy) (σ := (M, Rf)) (σ' := (updM M q (f : Int) x, Rf)) Lnd hi (ent_fld (σ := (M, Rf)) hk hr) (fun q' h => ent_ne (σ := (M, Rf)) h)
  exact k ρ hρ H1 locs1 ls (e9 ▸ hP1) hD hC hS1 hl
theorem bw_eq {σ σ' : Hp} (e : σ = σ') (k : BW X G ρ0 n0 nn pc lv st σ' u Q) : BW X G ρ0 n0 nn pc lv st σ u Q := e ▸ k
theorem bw_objinit (F : FB X G cc own ret d U) {idx : Nat} {x : Id4} (hd : decode cc pc = .ok (.invokespecial idx, 3)) (hl1 : Cond.methodLink own idx Lib.objectInit ∈ Gw) (hl2 : Cond.instanceMethod Lib.objectInit ∈ Gw) (hl3 : Cond.code Lib.objectInit ⟨#[0xb1]⟩ 1 none ∈ Gw) (hd1 : 1 ≤ d) (hst : stW st ≤ 8) (k : BW X G ρ0 n0 nn (pc + 3) lv st (M, Rf) u Q) : BW X G ρ0 n0 nn pc lv (aR x :: st) (M, Rf) u Q := by
  obtain ⟨p, l, e, R, s, m, args, below, meth, c⟩ := X
  obtain ⟨g, cy, A, nL⟩ := G
  obtain ⟨hx, hb, hml, hown, hts, hK, hA, hlk, hret, hR, hN⟩ := F
  subst hR
  intro ρ hρ H locs ls hP hD hC hS hl
  refine W.objInit (rest := st.map (cv ρ)) hx hb hown (hts _ hl1) (hts _ hl2) (hts _ hl3) rfl (by rw [hml]; exact hl.1) rfl hd hd1 ?_ ?_
  · have := st_cat (ρ := ρ) st
    show 2 * 0 + _ + 12 ≤ 80 * d
    omega
  · exact k ρ hρ H locs ls hP hD hC hS hl
theorem bw_putR (F : FB X G cc own ret d U) {q q2 : Id4} {t f idx : Nat} {fz : Int} (hd : decode cc pc = .ok (.putfield idx, 3)) (hf : FL own idx t f) (hg : ∀ r : vw_C, vwCl[t]? = some r → (((r.2.1 f).2.2.2 = true ∧ (r.2.1 f).1 = own ∧ INI X) ∨ (r.2.1 f).2.2.2 = false) ∧ ∃ ty, parseFieldDescriptor (r.2.1 f).2.2.1 = some ty ∧ ∀ a : Nat, narrow ty (.ref a) = .ref a ∧ fits ty (.ref a) = true) (hk : kd q = .inl t) (hm : q ∈ Lord.take nn) (hm2 : q2 ∈ Lord.take nn) (hr : rfF t f = true) (hz : (f : Int) = fz) (k : BW X G ρ0 n0 nn (pc + 3) lv st (M, updR Rf q fz (some q2)) u Q) : BW X G ρ0 n0 nn pc lv (aR q2 :: aR q :: st) (M, Rf) u Q := by
  obtain ⟨p, l, e, R, s, m, args, below, meth, c⟩ := X
  obtain ⟨g, cy, A, nL⟩ := G
  obtain ⟨hx, hb, hml, hown, hts, hK, hA, hlk, hret, hR, hN⟩ := F
  intro ρ hρ H locs ls hP hD hC hS hl
  subst hz
  obtain ⟨r, hr1, hr2, hr3, hr4⟩ := hf
  obtain ⟨i, hi, hi2⟩ := ws_at (ρ := ρ) (cy := cy) (σ := (M, Rf)) hm
  rw [ent_obj hk] at hi2
  obtain ⟨ty0, hty, hnm⟩ := (clsOK t r hr1).1
  obtain ⟨hg1, ty, hg2, hg3⟩ := hg r hr1
  have e9 := ws_set (ρ := ρ) (cy := cy) (σ := (M, Rf)) (σ' := (M, updR Rf q (f : Int) (some q2))) Lnd hi (ent_fldR (σ := (M, Rf)) hk hr) (fun q' h => ent_neR (σ := (M, Rf)) h)
  rcases hg1 with ⟨w1, w2, w3⟩ | w1
  · exact va_putF (fs := flds ρ (M, Rf) q t) hx hb hts (clsOK t r hr1).2 ty0 hty hnm hown hK hP (wsD hD (M, Rf)) hS i hi2 hr1 f hr2 (hts _ hr4) (fun _ h => h) w1 w3 w2 hg2 (hg3 (ρ q2)).1 (hg3 (ρ q2)).2 (by rw [fl_len]; omega) hd (fun H1 locs1 hP1 hD1 hS1 => k ρ hρ H1 locs1 ls (e9 ▸ hP1) hD (hC.up hm2) hS1 hl)
  · exact va_put (fs := flds ρ (M, Rf) q t) hx hb hts (clsOK t r hr1).2 ty0 hty hnm hown hK hP (wsD hD (M, Rf)) hS i hi2 hr1 f hr2 (hts _ hr4) (fun _ h => h) w1 hg2 (hg3 (ρ q2)).1 (hg3 (ρ q2)).2 (by rw [fl_len]; omega) hd (fun H1 locs1 hP1 hD1 hS1 => k ρ hρ H1 locs1 ls (e9 ▸ hP1) hD (hC.up hm2) hS1 hl)
theorem cy_eq {g : va_G} {cy : Nat → ClassId} {s : State} {cA : ClassId} {e : Nat} (he : e ≤ 7) (hK : va_K g vwCl (tysOf cy) s) (hK1 : va_K g vwCl (tysOf cy ++ [(cA, eT e)]) s) : cA = cy e := by
  have h1 := (hK1.2 8 (cA, eT e) rfl).2
  have h2 := (hK.2 e (cy e, eT e) (by
    have : e < 8 := by omega
    unfold tysOf
    rw [List.getElem?_map, List.getElem?_range this]
    rfl)).2
  rcases (show e = 0 ∨ e = 1 ∨ e = 2 ∨ e = 3 ∨ e = 4 ∨ e = 5 ∨ e = 6 ∨ e = 7 by omega) with rfl | rfl | rfl | rfl | rfl | rfl | rfl | rfl
  case inr.inr.inr.inr.inr.inl =>
    obtain ⟨_, _, _, _, _, w1⟩ := h1
    obtain ⟨_, _, _, _, _, w2⟩ := h2
    exact Option.some.inj (w1.symm.trans w2)
  all_goals exact Option.some.inj (Eq.trans (Eq.symm h1) h2)
theorem bw_newa (F : FB X G cc own ret d U) {at9 : ArrayType} {q : Id4} {e N w : Nat} (hd : decode cc pc = .ok (.newarray at9, 2)) (hty : newarray.typeOf at9 = eT e) (he : e ≤ 3) (har : Cond.arrayClass (eT e) ∈ Gw) (hq : Lord[nn]? = some q) (hk : kd q = .inr (e, N)) (hz : ∀ k, M q k = 0) (hlv : RF nn lv) (hst : RF nn st) (hn0 : n0 ≤ nn) (hw : N ≤ 64 * w ∧ 1 ≤ w) (hu : u + w ≤ U) (k : BW X G ρ0 n0 (nn + 1) (pc + 2) lv (aR q :: st) (M, Rf) (u + w) Q) : BW X G ρ0 n0 nn pc lv (aI N :: st) (M, Rf) u Q := by
  obtain ⟨p, l, e', R, s, m, args, below, meth, c⟩ := X
  obtain ⟨g, cy, A, nL⟩ := G
  obtain ⟨hx, hb, hml, hown, hts, hK, hA, hlk, hret, hR, hN⟩ := F
  subst hR
  intro ρ hρ H locs ls hP hD hC hS hl
  have hs := (kd_L (List.mem_of_getElem? hq) hk).1
  have hNn : (Int32.ofInt (N : Int)).toNatClampNeg = N := by rw [oi_nat (by omega) (by omega)]; omega
  have he4 : e = 0 ∨ e = 1 ∨ e = 2 ∨ e = 3 := by omega
  have ha0 : ∀ cA : ClassId, vp_cell cA (N, arrs ρ (M, Rf) q e) = arrV cA N (fun _ => defaultValue (eT e)) := by
    intro cA
    have e1 : (fun j : Nat => Int32.ofInt (M q (j : Int))) = fun _ => 0 := funext fun j => by rw [hz]; rfl
    rcases he4 with rfl | rfl | rfl | rfl
    · show vp_cell cA (N, .inl (fun j : Nat => Int32.ofInt (M q (j : Int)))) = _; rw [e1]; rfl
    · show vp_cell cA (N, .inl (fun j : Nat => Int32.ofInt (M q (j : Int)))) = _; rw [e1]; rfl
    · show vp_cell cA (N, .inl (fun j : Nat => Int32.ofInt (M q (j : Int)))) = _; rw [e1]; rfl
    · show vp_cell cA (N, .inl (fun j : Nat => Int32.ofInt (M q (j : Int)))) = _; rw [e1]; rfl
  have hby : N * componentBytes (eT e) ≤ 536870912 := by
    rcases he4 with rfl | rfl | rfl | rfl <;> simp only [eT, componentBytes] <;> omega
  refine va_newa (atype := at9) (a0 := (N, arrs ρ (M, Rf) q e)) (N' := N) hx hb (hty ▸ hts _ har) hty hK hP (wsD hD _) hS hA ha0 ?_ hNn hby (by show u + 1 ≤ U; omega) (by show 64 * u + N ≤ 64 * U; omega) hd (fun a cA H1 hK1 hP1 hD1 hS1 => ?_)
  · intro z
    have z2 := (oi_lt (i := (N : Int)) (j := 0) (by unfold inR; omega) inR0).mp z
    omega
  have hcA := cy_eq (by omega) hK hK1
  subst hcA
  obtain ⟨ρ', g1, g2, g3, g4, g5⟩ := grow hq hC hP1 hD1 (fun ρ' h' => by
    rw [ent_ag h' hC]
    unfold ent
    rw [hk])
  have kk := k ρ' (hρ.tr hn0 (AG.of hq (Nat.le_refl _) g1)) H1 locs ls g4 g5 (hC.le (Nat.le_succ _)) hS1 (lh_ag (AG.of hq (Nat.le_refl _) g1) hlv hl)
  refine W.widen (k := u + w) (n := 64 * (u + w)) (by omega) (by omega) ?_
  rw [← g2, ← st_ag (AG.of hq (Nat.le_refl _) g1) hst]
  exact kk
/-- the default values of a class's fields -/
def DF (t : Nat) : Prop := ∀ r : vw_C, vwCl[t]? = some r → ∃ ty : Nat → FieldType, (∀ k, k < r.2.2 → parseFieldDescriptor (r.2.1 k).2.2.1 = some (ty k)) ∧ ∀ j, j < r.2.2 → defaultValue (ty j) = if rfF t j then .null else .int 0
theorem bw_new (F : FB X G cc own ret d U) {q : Id4} {t idx w : Nat} {C : String} (hd : decode cc pc = .ok (.new idx, 3)) (hc : ∃ r : vw_C, vwCl[t]? = some r ∧ r.1 = C ∧ r.2.2 = nfl t ∧ Cond.instantiable r.1 r.2.2 ∈ Gw) (hcl : Cond.classLink own idx C ∈ Gw) (hini : Cond.initialized C ∈ Gw) (hdf : DF t) (hq : Lord[nn]? = some q) (hk : kd q = .inl t) (hz : ∀ k, M q k = 0) (hz2 : ∀ k, Rf q k = none) (hlv : RF nn lv) (hst : RF nn st) (hn0 : n0 ≤ nn) (hw : nfl t ≤ 64 * w ∧ 1 ≤ w) (hu : u + w ≤ U) (k : BW X G ρ0 n0 (nn + 1) (pc + 3) lv (aR q :: st) (M, Rf) (u + w) Q) : BW X G ρ0 n0 nn pc lv st (M, Rf) u Q := by
  obtain ⟨p, l, e', R, s, m, args, below, meth, c⟩ := X
  obtain ⟨g, cy, A, nL⟩ := G
  obtain ⟨hx, hb, hml, hown, hts, hK, hA, hlk, hret, hR, hN⟩ := F
  subst hR
  intro ρ hρ H locs ls hP hD hC hS hl
  obtain ⟨r, hr1, rfl, hr3, hr4⟩ := hc
  obtain ⟨ty, hty, hdv⟩ := hdf r hr1
  refine va_new (fs := flds ρ (M, Rf) q t) (C := r.1) (T := r.2.1) (N := r.2.2) hx hb hts (clsOK t r hr1).2 ty hty hown (hts _ hcl) (hts _ hr4) (hts _ hini) hK hP (wsD hD _) hS hA hr1 (fun j hj => ?_) (by show u + 1 ≤ U; omega) (by show 64 * u + r.2.2 ≤ 64 * U; omega) hd (fun a H1 hP1 hD1 hS1 => ?_)
  · rw [hdv j hj]
    unfold vp_V flds
    rw [List.getD_eq_getElem?_getD, List.getElem?_map, List.getElem?_range (by omega)]
    by_cases hf : rfF t j = true
    · simp [hf, hz2, va_rf]
    · simp [hf, hz]
      try rfl
  · obtain ⟨ρ', g1, g2, g3, g4, g5⟩ := grow hq hC hP1 hD1 (fun ρ' h' => by rw [ent_ag h' hC, ent_obj hk])
    have kk := k ρ' (hρ.tr hn0 (AG.of hq (Nat.le_refl _) g1)) H1 locs ls g4 g5 (hC.le (Nat.le_succ _)) hS1 (lh_ag (AG.of hq (Nat.le_refl _) g1) hlv hl)
    refine W.widen (k := u + w) (n := 64 * (u + w)) (by omega) (by omega) ?_
    rw [← g2, ← st_ag (AG.of hq (Nat.le_refl _) g1) hst]
    exact kk
theorem bw_newq (F : FB X G cc own ret d U) {q : Id4} {idx N : Nat} (hd : decode cc pc = .ok (.anewarray idx, 3)) (hcl : Cond.classLink own idx RX5 ∈ Gw) (hq : Lord[nn]? = some q) (hk : kd q = .inr (5, N)) (hz2 : ∀ k, Rf q k = none) (hlv : RF nn lv) (hst : RF nn st) (hn0 : n0 ≤ nn) (hw : N ≤ 64) (hu : u + 1 ≤ U) (k : BW X G ρ0 n0 (nn + 1) (pc + 3) lv (aR q :: st) (M, Rf) (u + 1) Q) : BW X G ρ0 n0 nn pc lv (aI N :: st) (M, Rf) u Q := by
  obtain ⟨p, l, e', R, s, m, args, below, meth, c⟩ := X
  obtain ⟨g, cy, A, nL⟩ := G
  obtain ⟨hx, hb, hml, hown, hts, hK, hA, hlk, hret, hR, hN⟩ := F
  subst hR
  intro ρ hρ H locs ls hP hD hC hS hl
  have hNn : (Int32.ofInt (N : Int)).toNatClampNeg = N := by rw [oi_nat (by omega) (by omega)]; omega
  refine va_newq (N' := N) hx hb hown (hts _ hcl) hN.2.1 hK hP (wsD hD _) hS hA ?_ hNn (by omega) (by show u + 1 ≤ U; omega) (by show 64 * u + N ≤ 64 * U; omega) hd (fun a cA H1 hK1 hP1 hD1 hS1 => ?_)
  · intro z
    have z2 := (oi_lt (i := (N : Int)) (j := 0) (by unfold inR; omega) inR0).mp z
    omega
  · have hcA := cy_eq (e := 5) (by decide) hK hK1
    subst hcA
    obtain ⟨ρ', g1, g2, g3, g4, g5⟩ := grow hq hC hP1 hD1 (fun ρ' h' => by
      rw [ent_ag h' hC]
      unfold ent arrs
      rw [hk]
      simp [hz2])
    have kk := k ρ' (hρ.tr hn0 (AG.of hq (Nat.le_refl _) g1)) H1 locs ls g4 g5 (hC.le (Nat.le_succ _)) hS1 (lh_ag (AG.of hq (Nat.le_refl _) g1) hlv hl)
    refine W.widen (k := u + 1) (n := 64 * (u + 1)) (by omega) (by omega) ?_
    rw [← g2, ← st_ag (AG.of hq (Nat.le_refl _) g1) hst]
    exact kk
theorem ent_arrQ {ρ : Id4 → Nat} {cy : Nat → ClassId} {σ : Hp} {q q2 : Id4} {N : Nat} {i : Int} (hk : kd q = .inr (5, N)) (hi : 0 ≤ i ∧ i < N) : ent ρ cy (σ.1, updR σ.2 q i (some q2)) q = .inl (cy 5, (N, .inr (.inr (.inr (.inr (va_up (fun j : Nat => (σ.2 q (j : Int)).map ρ) i.toNat (some (ρ q2)))))))) := by
  unfold ent
  rw [hk]
  refine congrArg (fun f : Nat → Option Nat => (Sum.inl (cy 5, (N, Sum.inr (Sum.inr (Sum.inr (Sum.inr f))))) : va_E)) (funext fun j => ?_)
  show (updR σ.2 q i (some q2) q (j : Int)).map ρ = _
  unfold va_up
  by_cases hj : j = i.toNat
  · rw [if_pos hj]
    rw [show updR σ.2 q i (some q2) q (j : Int) = some q2 from if_pos ⟨rfl, by omega⟩]
    rfl
  · rw [if_neg hj]
    rw [show updR σ.2 q i (some q2) q (j : Int) = σ.2 q (j : Int) from if_neg (fun z => hj (by have := z.2; omega))]
theorem bw_astq (F : FB X G cc own ret d U) {q q2 : Id4} {N : Nat} {i : Int} (hd : decode cc pc = .ok (.aastore, 1)) (hk : kd q = .inr (5, N)) (hk2 : kd q2 = .inl 5) (hm : q ∈ Lord.take nn) (hm2 : q2 ∈ Lord.take nn) (hi : 0 ≤ i ∧ i < N) (k : BW X G ρ0 n0 nn (pc + 1) lv st (M, updR Rf q i (some q2)) u Q) : BW X G ρ0 n0 nn pc lv (aR q2 :: aI i :: aR q :: st) (M, Rf) u Q := by
  obtain ⟨p, l, e, R, s, m, args, below, meth, c⟩ := X
  obtain ⟨g, cy, A, nL⟩ := G
  obtain ⟨hx, hb, hml, hown, hts, hK, hA, hlk, hret, hR, hN⟩ := F
  intro ρ hρ H locs ls hP hD hC hS hl
  obtain ⟨j, hj, hj2⟩ := ws_at (ρ := ρ) (cy := cy) (σ := (M, Rf)) hm
  obtain ⟨j2, hj3, hj4⟩ := ws_at (ρ := ρ) (cy := cy) (σ := (M, Rf)) hm2
  rw [ent_obj hk2] at hj4
  have e5 : ent ρ cy (M, Rf) q = .inl (cy 5, (N, .inr (.inr (.inr (.inr (fun j : Nat => (Rf q (j : Int)).map ρ)))))) := by
    unfold ent
    rw [hk]
    rfl
  rw [e5] at hj2
  have hs := (kd_L (List.take_subset _ _ hm) hk).1
  refine va_astq hx hb hK hP (wsD hD (M, Rf)) hS j 5 j2 5 hj2 (by rfl) hj4 rfl (oi_in hi.1 hi.2 (by omega)) hd (fun H1 locs1 hP1 hD1 hS1 => ?_)
  have e9 := ws_set (ρ := ρ) (cy := cy) (σ := (M, Rf)) (σ' := (M, updR Rf q i (some q2))) Lnd hj (ent_arrQ (σ := (M, Rf)) hk hi) (fun q' h => ent_neR (σ := (M, Rf)) h)
  rw [oi_nat hi.1 (by omega)] at hP1
  exact k ρ hρ H1 locs1 ls (e9 ▸ hP1) hD (hC.up hm2) hS1 hl
theorem bw_mna (F : FB X G cc own ret d U) {q : Id4} {t c e ei idx N K9 w : Nat} {i : Int} (hN1 : 0 < N) (hd : decode cc pc = .ok (.multianewarray idx 2, 4)) (hty : (e = 6 ∧ ei = 1) ∨ (e = 7 ∧ ei = 0)) (hcl : Cond.classLink own idx ("[" ++ (FieldType.array (eT ei)).toString) ∈ Gw) (har : Cond.arrayClass (eT ei) ∈ Gw) (hq : (Lord.drop nn).take (N + 1) = q :: rws t i c N) (hk : kd q = .inr (e, N)) (hki : ∀ j : Nat, j < N → kd (t, i, c, (j : Int)) = .inr (ei, K9)) (hz : ∀ j k, M (t, i, c, j) k = 0) (hz2 : ∀ k, Rf q k = none) (hqi : ∀ j, q ≠ (t, i, c, j)) (hlv : RF nn lv) (hst : RF nn st) (hn0 : n0 ≤ nn) (hw : N + N * K9 ≤ 64 * w ∧ 1 + N ≤ w) (hu : u + w ≤ U) (k : BW X G ρ0 n0 (nn + (N + 1)) (pc + 4) lv (aR q :: st) (M, setR Rf q (fun k => if 0 ≤ k ∧ k < N then some (t, i, c, k) else none)) (u + w) Q) : BW X G ρ0 n0 nn pc lv (aI K9 :: aI N :: st) (M, Rf) u Q := by
  obtain ⟨p, l, e', R, s, m, args, below, meth, cd⟩ := X
  obtain ⟨g, cy, A, nL⟩ := G
  obtain ⟨hx, hb, hml, hown, hts, hK, hA, hlk, hret, hR, hN⟩ := F
  subst hR
  intro ρ hρ H locs ls hP hD hC hS hl
  have hNn : ∀ n : Nat, n ≤ 3072 → (Int32.ofInt (n : Int)).toNatClampNeg = n := fun n hn => by rw [oi_nat (by omega) (by omega)]; omega
  have hNg : ∀ n : Nat, n ≤ 3072 → ¬ Int32.ofInt (n : Int) < 0 := fun n hn z => by
    have z2 := (oi_lt (i := (n : Int)) (j := 0) (by unfold inR; omega) inR0).mp z
    omega
  have hN9 := (kd_L (List.mem_of_getElem? (dt_at hq 0 rfl)) hk).1
  have hK9 := (kd_L (List.mem_of_getElem? (dt_at hq 1 (show (q :: rws t i c N)[1]? = some (t, i, c, ((0 : Nat) : Int)) by unfold rws; simp [hN1]))) (hki 0 (by omega))).1
  have hKi := hK.2 ei (cy ei, eT ei) (by
    unfold tysOf
    rw [List.getElem?_map, List.getElem?_range (by omega)]
    rfl)
  have hcy : s.vm.findClass (FieldType.array (eT ei)).toString = some (cy ei) := by
    rcases hty with ⟨-, rfl⟩ | ⟨-, rfl⟩ <;> exact hKi.2
  have hov : va_AOA (eT ei) s := by
    rcases hty with ⟨-, rfl⟩ | ⟨-, rfl⟩
    · exact hN.2.2.2
    · exact hN.2.2.1
  have heT : FieldType.array (eT ei) = eT e := by rcases hty with ⟨rfl, rfl⟩ | ⟨rfl, rfl⟩ <;> rfl
  have hX : wsOf ρ cy (Lord.take nn) (M, Rf) ++ va_pl [] (fun _ => .inr (0, [])) = wsOf ρ cy (Lord.take nn) (M, Rf) := by unfold va_pl; exact List.append_nil _
  refine va_mna (X := wsOf ρ cy (Lord.take nn) (M, Rf)) (L := []) (f := fun _ => .inr (0, [])) (cy := cy ei) (N' := N) (K' := K9) (z := (K9, .inl (fun _ => 0))) hx hb hown (hts _ hcl) hov (hts _ har) hcy hK (by rw [hX]; exact hP) (by rw [hX]; exact wsD hD _) hS hA (hNg N (by omega)) (hNg K9 (by omega)) (hNn N (by omega)) (hNn K9 (by omega)) (by omega) ?_ (by omega) ?_ ?_ (by show u + (1 + N) ≤ U; omega) (by show 64 * u + (N + N * K9) ≤ 64 * U; omega) ?_ hd (fun qa r cA H1 hinj hnl hK1 hP1 hD1 hS1 => ?_)
  · rcases hty with ⟨-, rfl⟩ | ⟨-, rfl⟩ <;> simp only [eT, componentBytes] <;> omega
  · rcases hty with ⟨-, rfl⟩ | ⟨-, rfl⟩ <;> rfl
  · rcases hty with ⟨-, rfl⟩ | ⟨-, rfl⟩ <;> rfl
  · intro c9
    show ({ cls := c9, slots := Array.replicate K9 (defaultValue (eT ei)), vm := .none } : Cell) = _
    rw [arrV_new]
    rcases hty with ⟨-, rfl⟩ | ⟨-, rfl⟩ <;> rfl
  have hcA : cA = cy e := by
    rw [heT] at hK1
    exact cy_eq (by omega) hK hK1
  subst hcA
  have tk : Lord.take (nn + (N + 1)) = Lord.take nn ++ (q :: rws t i c N) := by rw [List.take_add, hq]
  have dj : ∀ x ∈ Lord.take nn, x ∉ q :: rws t i c N := by
    have h1 : (Lord.take (nn + (N + 1))).Nodup := Lnd
    rw [tk] at h1
    intro x hx1 hx2
    exact (List.nodup_append.mp h1).2.2 x hx1 x hx2 rfl
  obtain ⟨ρ', hρ'⟩ : ∃ ρ' : Id4 → Nat, ρ' = fun x => if x = q then qa else if x ∈ rws t i c N then r x.2.2.2.toNat else ρ x := ⟨_, rfl⟩
  have g1 : ∀ x, x ∉ q :: rws t i c N → ρ' x = ρ x := fun x hx => by
    rw [hρ']
    dsimp only
    rw [if_neg (fun z : x = q => hx (by rw [z]; exact List.mem_cons_self)), if_neg (fun z : x ∈ rws t i c N => hx (List.mem_cons_of_mem _ z))]
  have g2 : ρ' q = qa := by rw [hρ']; exact if_pos rfl
  have g3 : ∀ x ∈ Lord.take nn, ρ' x = ρ x := fun x hx => g1 x (dj x hx)
  have g4 : ∀ j : Nat, j < N → ρ' (t, i, c, (j : Int)) = r j := fun j hj => by
    rw [hρ']
    dsimp only
    rw [if_neg (fun z => hqi _ z.symm), if_pos (show ((t, i, c, (j : Int)) : Id4) ∈ rws t i c N from List.mem_map.mpr ⟨j, List.mem_range.mpr hj, rfl⟩)]
    congr 1
  have hAG : AG nn ρ ρ' := fun x hx => g1 x (fun z => by
    rcases hx with hx | hx
    · exact dj x hx z
    · refine hx (List.mem_of_mem_drop (i := nn) (List.mem_of_mem_take (i := N + 1) ?_))
      rw [hq]
      exact z)
  have hC' : RC (nn + (N + 1)) (M, setR Rf q (fun k => if 0 ≤ k ∧ k < N then some (t, i, c, k) else none)) := fun x k q2 h => by
    by_cases hxq : x = q
    · have h' : (setR Rf q (fun k => if 0 ≤ k ∧ k < (N : Int) then some (t, i, c, k) else none)) x k = some q2 := h
      rw [hxq, setR_same] at h'
      split at h'
      · rename_i hk9
        cases h'
        rw [tk]
        refine List.mem_append_right _ (List.mem_cons_of_mem _ (List.mem_map.mpr ⟨k.toNat, List.mem_range.mpr (by omega), ?_⟩))
        rw [Int.toNat_of_nonneg hk9.1]
      · cases h'
    · have h' : (setR Rf q (fun k => if 0 ≤ k ∧ k < (N : Int) then some (t, i, c, k) else none)) x k = some q2 := h
      rw [setR_ne hxq] at h'
      exact take_le (by omega) (hC x k q2 h')
  have hw9 : wsOf ρ' cy (Lord.take (nn + (N + 1))) (M, setR Rf q (fun k => if 0 ≤ k ∧ k < N then some (t, i, c, k) else none)) = (wsOf ρ cy (Lord.take nn) (M, Rf) ++ [(qa, .inl (cy e, N, .inr (.inr (.inr (.inr (fun i => if i < N then some (r i) else none))))))]) ++ va_pl ([] ++ (List.range N).map r) (vr_up (fun _ => .inr (0, [])) ((List.range N).map r) (.inl (cy ei, (K9, .inl (fun _ => 0))))) := by
    rw [tk]
    have e1 : wsOf ρ' cy (Lord.take nn) (M, setR Rf q (fun k => if 0 ≤ k ∧ k < N then some (t, i, c, k) else none)) = wsOf ρ cy (Lord.take nn) (M, Rf) := by
      rw [← ws_ag g3 hC]
      refine List.map_congr_left fun x hx => ?_
      have hxq : x ≠ q := fun z => dj x hx (z ▸ List.mem_cons_self)
      unfold ent flds arrs
      simp only [setR_ne hxq]
    have e2 : (ρ' q, ent ρ' cy (M, setR Rf q (fun k => if 0 ≤ k ∧ k < N then some (t, i, c, k) else none)) q) = (qa, .inl (cy e, N, .inr (.inr (.inr (.inr (fun i => if i < N then some (r i) else none)))))) := by
      rw [g2]
      unfold ent arrs
      rw [hk]
      dsimp only
      rw [if_neg (by omega), if_neg (by omega)]
      refine congrArg (fun f : Nat → Option Nat => ((qa, Sum.inl (cy e, N, Sum.inr (Sum.inr (Sum.inr (Sum.inr f))))) : Nat × va_E)) (funext fun j => ?_)
      rw [setR_same]
      by_cases hj : j < N
      · rw [if_pos ⟨by omega, by omega⟩, if_pos hj]
        show some (ρ' (t, i, c, (j : Int))) = _
        rw [g4 j hj]
      · rw [if_neg (fun z => hj (by omega)), if_neg hj]
        rfl
    have e3 : (rws t i c N).map (fun x => (ρ' x, ent ρ' cy (M, setR Rf q (fun k => if 0 ≤ k ∧ k < N then some (t, i, c, k) else none)) x)) = va_pl ([] ++ (List.range N).map r) (vr_up (fun _ => .inr (0, [])) ((List.range N).map r) (.inl (cy ei, (K9, .inl (fun _ => 0))))) := by
      unfold rws va_pl
      rw [List.nil_append, List.map_map, List.map_map]
      refine List.map_congr_left fun j hj => ?_
      have hj2 := List.mem_range.mp hj
      show (ρ' (t, i, c, (j : Int)), ent ρ' cy _ (t, i, c, (j : Int))) = (r j, vr_up _ _ _ (r j))
      rw [g4 j hj2, vr_up_in (List.mem_map.mpr ⟨j, hj, rfl⟩)]
      congr 1
      unfold ent arrs
      rw [hki j hj2]
      dsimp only
      rw [if_pos (by omega)]
      congr 4
      funext k
      rw [hz]
      rfl
    rw [List.append_assoc, ← e1, ← e3, ← e2]
    unfold wsOf
    rw [List.map_append]
    rfl
  have hP2 := hw9 ▸ hP1
  have hD2 : va_D A (wsA ρ' (Lord.take (nn + (N + 1)))) := Dws (hw9 ▸ hD1)
  have kk := k ρ' (hρ.tr hn0 hAG) H1 locs ls hP2 hD2 hC' hS1 (lh_ag hAG hlv hl)
  refine W.widen (k := u + w) (n := 64 * (u + w)) (by omega) (by omega) ?_
  rw [← g2, ← st_ag hAG hst]
  exact kk
def WRn (g : va_G) (cy : Nat → ClassId) (ρ : Id4 → Nat) (n : Nat) (σ : Hp) (sz : Nat) (S : State) : Prop := S.heap.size = sz ∧ va_P g vwCl (wsOf ρ cy (Lord.take n) σ) S.heap ∧ va_K g vwCl (tysOf cy) S ∧ va_D (fun _ => True) (wsA ρ (Lord.take n)) ∧ RC n σ ∧ NV S
def QN (g : va_G) (cy : Nat → ClassId) (ρ : Id4 → Nat) (n0 n1 : Nat) (A : Nat → Prop) (Q : Hp → Prop) : Array Value → State → Outcome → State → Prop := va_Qv (fun (u : Hp × (Id4 → Nat)) => Q u.1 ∧ AG n0 ρ u.2 ∧ RC n1 u.1) (fun u t => va_P g vwCl (wsOf u.2 cy (Lord.take n1) u.1) t.heap ∧ va_D A (wsA u.2 (Lord.take n1)) ∧ va_K g vwCl (tysOf cy) t) A
def CnV (d U : Nat) (y : MethodName) (bc : ByteArray) (mL : Nat) (n0 n1 : Nat) (q : Id4) (σ : Hp) (Q : Hp → Prop) : Prop :=
  ∀ (l : Launch) (g : va_G) (cy : Nat → ClassId) (ρ : Id4 → Nat) (sz : Nat), Met l y (Cond.code y bc mL none :: Gw) (rmOf d U) (va_Pc [.ref (ρ q)] (WRn g cy ρ n0 σ sz)) (QN g cy ρ n0 n1 (Aof ρ (Lord.take n0) sz) Q) U (64 * U) (Aof ρ (Lord.take n0) sz)
def EBN (X : Cx) (G : Gx) (ρ : Id4 → Nat) (n0 n1 U : Nat) (Q : Hp → Prop) : State → Prop := match X, G with
  | (_, _, _, _, s, _, args, below, _, _), (g, cy, A, _) => MQ below (QN g cy ρ n0 n1 A Q) args s U (64 * U) A
theorem CnV.mk {d U : Nat} {y : MethodName} {bc : ByteArray} {mL n0 n1 : Nat} {q : Id4} {σ : Hp} {Q : Hp → Prop} (hy : plainName y.cls = true) (hn9 : y.name = "<init>") (hn : 1 ≤ mL) (h : ∀ (X : Cx) (G : Gx) (ρ : Id4 → Nat), FB X G bc y.cls none d U → INI X → G.2.2.2 = mL → BW X G ρ n0 n0 0 (aR q :: List.replicate (mL - 1) aX) [] σ 0 (EBN X G ρ n0 n1 U Q)) : CnV d U y bc mL n0 n1 q σ Q := by
  intro l g cy ρ sz
  refine Met.ofW (cc := bc) (maxL := mL) (ret := none) hy rfl ?_
  intro p e s m args' below meth c s₁ B hml hv
  obtain ⟨rfl, hsz, hP, hK, hD0, hC, hN⟩ := hv
  subst hsz
  have hts := atoms_spec (ws := Cond.code y bc mL none :: Gw) B.pre
  have F : FB (p, l, e, rmOf d U, s, m, ([aR q].map (cv ρ)).toArray, below, meth, c) (g, cy, Aof ρ (Lord.take n0) s.heap.size, mL) bc y.cls none d U :=
    ⟨B.exec, B.bytes, hml, findClass_of_methodNamed B.named, fun w h => hts w (List.mem_cons_of_mem _ h), hK, Aof_hA, B.notSynchronized, B.returns, rfl, hN⟩
  have hin : meth.name = "<init>" := (name_of_methodNamed B.named B.method).1.trans hn9
  have k := h _ _ ρ F hin rfl ρ AG.rf s.heap [] _ hP (Aof_D hD0) hC va_S.rf (lh_entry (ρ := ρ) (args := [aR q]) (mL := mL) rfl hn)
  rw [lg_entry_eq]
  exact k
theorem bw_vret {n1 : Nat} {ρ : Id4 → Nat} {Q9 : Hp → Prop} (F : FB X G cc own none d U) (hd : decode cc pc = .ok (.return_, 1)) (hu : u ≤ U) (hq : Q9 (M, Rf)) : BW X G ρ n0 n1 pc lv [] (M, Rf) u (EBN X G ρ n0 n1 U Q9) := by
  obtain ⟨p, l, e, R, s, m, args, below, meth, c⟩ := X
  obtain ⟨g, cy, A, nL⟩ := G
  obtain ⟨hx, hb, hml, hown, hts, hK, hA, hlk, hret, hR, hN⟩ := F
  intro ρ1 hρ H locs ls hP hD hC hS hl
  refine W.widen hu (Nat.mul_le_mul_left 64 hu) ?_
  exact W.vret hx hb hret (fun t ht hW => ⟨⟨((M, Rf), ρ1), rfl, ⟨hq, hρ, hC⟩, by rw [ht]; exact hP, hD, va_K.moved hW.alike hK⟩, hS.F ht⟩) hS.2.2 hd hlk
theorem va_AOA.moved {ty : FieldType} {u U : State} (hvm : u.vm.Alike U.vm) (h : va_AOA ty u) : va_AOA ty U := by
  obtain ⟨comp, c, k, h1, h2, h3, h4, h5⟩ := arrayOverA_spec h
  obtain ⟨k', hk', he⟩ := hvm.2.2 _ _ h3
  have hi : (U.vm.classes.findIdx? fun (x : Class) => match x.kind with | .array component _ => component == comp | _ => false) = some c := by
    have hb9 : U.vm.bare = u.vm.bare := by first | exact hvm.bare_eq | exact hvm.bare_eq.symm
    have hi9 := va_idx_bare U.vm comp
    rw [hb9] at hi9
    exact hi9.symm.trans ((va_idx_bare u.vm comp).trans h2)
  have hkind : k'.kind = .array comp (.array ty) := by rw [he]; exact h4
  have f1 : U.vm.findClass (FieldType.array ty).toString = some comp := by rw [hvm.findClass]; exact h1
  have f2 : U.vm.findClass ("[" ++ (FieldType.array ty).toString) = some c := by rw [hvm.findClass]; exact h5
  unfold va_AOA Cond.before Cond.holds
  simp only [Cond.value]
  rw [f1, Option.bind_some]
  refine (congrArg (fun o : Option Nat => (o.bind (fun c => (U.vm.classes[c]?).map fun (k : Class) => match k.kind with | .array _ ty' => decide (ty' = FieldType.array ty) && decide (U.vm.findClass ("[" ++ (FieldType.array ty).toString) = some c) | _ => false) == some true)) hi).trans ?_
  simp [hk', hkind, f2]
theorem NV.same {s t : State} (h : s.vm = t.vm) (hN : NV s) : NV t := ⟨fun x hx => va_Nw.same rfl h (hN.1 x hx), hN.2.1.moved (h ▸ Vm.Alike.refl s.vm), hN.2.2.1.moved (h ▸ Vm.Alike.refl s.vm), hN.2.2.2.moved (h ▸ Vm.Alike.refl s.vm)⟩
theorem NV.warm {s t : State} (h : s.WarmedH t.vm) (hN : NV s) : NV t := ⟨fun x hx => va_Nw.warmM h (hN.1 x hx), hN.2.1.moved h.alike, hN.2.2.1.moved h.alike, hN.2.2.2.moved h.alike⟩
theorem WRn_blind {g : va_G} {cy : Nat → ClassId} {ρ : Id4 → Nat} {n : Nat} {σ : Hp} {sz : Nat} {av : List Value} : FrameBlind (va_Pc av (WRn g cy ρ n σ sz)) := by
  intro a U g9 mk q
  obtain ⟨q0, q1, q2, q3, q4, q5, q6⟩ := q
  exact ⟨q0, q1, q2, va_K.moved (u := U) (U := U.calling g9 mk a) (Vm.Alike.refl U.vm) q3, q4, q5, NV.same (t := U.calling g9 mk a) rfl q6⟩
/-- a call of a constructor: by the link of nest mates, or a plain one -/
def MLI (own : String) (idx : Nat) (host : Option String) (y : MethodName) (bc : ByteArray) (mL : Nat) : Prop :=
  (y.cls ≠ "java/lang/invoke/MethodHandle" ∧ y.cls ≠ "java/lang/invoke/VarHandle" ∧ (parseMethodDescriptor y.desc).map (fun d => d.parameters.length) = some 0) ∧ mL ≤ 40 ∧ (match host with | none => Cond.methodLink own idx y ∈ Gw | some h => (own, idx, y, h) ∈ NL) ∧ y.name = "<init>" ∧ Cond.instanceMethod y ∈ Gw ∧ Cond.initialized y.cls ∈ Gw ∧ Cond.code y bc mL none ∈ Gw
theorem bw_init (F : FB X G cc own ret d U) {q : Id4} {y : MethodName} {bc : ByteArray} {mL n1 d2 U2 idx : Nat} {host : Option String} {Q2 : Hp → Prop} (hd : decode cc pc = .ok (.invokespecial idx, 3)) (hl9 : MLI own idx host y bc mL) (hc : CnV d2 U2 y bc mL nn n1 q (M, Rf) Q2) (hlv : RF nn lv) (hst : RF nn st) (hs8 : stW st ≤ 8) (hn0 : n0 ≤ nn) (h01 : nn ≤ n1) (hdd : d2 + 1 ≤ d) (hu : u + U2 ≤ U) (k : ∀ σ' : Hp, Q2 σ' → BW X G ρ0 n0 n1 (pc + 3) lv st σ' (u + U2) Q) : BW X G ρ0 n0 nn pc lv (aR q :: st) (M, Rf) u Q := by
  obtain ⟨p, l, e, R, s, m, args, below, meth, c⟩ := X
  obtain ⟨g, cy, A, nL⟩ := G
  obtain ⟨hx, hb, hml, hown, hts, hK, hA, hlk, hret, hR, hN⟩ := F
  subst hR
  intro ρ hρ H locs ls hP hD hC hS hl
  obtain ⟨h2, h3, h4, h5, h6, h7, h8⟩ := hl9
  have hf9 : ∀ q, Aof ρ (Lord.take nn) H.size q → A q := fun q h => h.elim (fun ⟨i, hi, he⟩ => he ▸ wsA_D hD i hi) (fun h => hA q (Nat.le_trans hS.1 h))
  have hM := hc l g cy ρ H.size
  have hpre : PreS s H (va_Pc [.ref (ρ q)] (WRn g cy ρ nn (M, Rf) H.size)) (.ref (ρ q) :: []) := ⟨WRn_blind, fun V hV hW => ⟨rfl, by rw [hV], by rw [hV]; exact hP, va_K.moved hW.alike hK, hD.weaken (fun _ _ _ _ => trivial), hC, NV.warm hW hN⟩⟩
  have hrm : (rmOf d2 U2).frames + 1 ≤ (rmOf d U).frames ∧ 8 + (mL + 11) + (rmOf d2 U2).locals ≤ (rmOf d U).locals := ⟨hdd, by show 8 + (mL + 11) + 80 * d2 ≤ 80 * d; omega⟩
  have hrun : va_Run p l e (rmOf d U) s m args below meth c H locs u (64 * u) U2 (64 * U2) (F0 m pc ls ((aR q :: st).map (cv ρ))) (st.map (cv ρ)) (QN g cy ρ nn n1 (Aof ρ (Lord.take nn) H.size) Q2 (Value.ref (ρ q) :: []).toArray) (Aof ρ (Lord.take nn) H.size) := by
    cases host with
    | none => exact va_runI (As := []) (rest := st.map (cv ρ)) ⟨hx, hb, hml, hown, hts⟩ hM (cwI 0 hts (gwIn (gwCons h8)) rfl rfl rfl (hts _ h7) (hts _ h4) (hts _ h6) h5 h2 hrm) hpre rfl rfl hl.1 rfl (lv_room (Nat.le_trans (st_cat st) hs8)) hd ⟨hu, by show 64 * u + 64 * U2 ≤ 64 * U; omega⟩
    | some h => exact va_runIN (As := []) (rest := st.map (cv ρ)) ⟨hx, hb, hml, hown, hts⟩ hM ⟨va_cnB 0 hts (gwIn (gwCons h8)) rfl rfl rfl (hN.1 _ h4) (hts _ h7) h2 hrm, h5, hts _ h6⟩ hpre rfl rfl hl.1 rfl (lv_room (Nat.le_trans (st_cat st) hs8)) hd ⟨hu, by show 64 * u + 64 * U2 ≤ 64 * U; omega⟩
  refine va_callv hrun hS (fun q _ h => hf9 q h) hf9 (fun u9 t9 H1 locs1 ht hvm hw hB hz1 hk1 hS1 => ?_)
  obtain ⟨hw1, hw2, hw3⟩ := hw
  obtain ⟨hB1, hB2, hB3⟩ := hB
  have kk := k u9.1 hw1 u9.2 (hρ.tr hn0 hw2) H1 locs1 ls (by rw [← ht]; exact hB1) (hB2.weaken (fun _ _ _ h => hf9 _ h)) hw3 hS1 (lh_ag hw2 hlv hl)
  rw [← st_ag hw2 hst]
  rw [show 64 * u + 64 * U2 = 64 * (u + U2) by omega]
  exact kk
end BROWS
