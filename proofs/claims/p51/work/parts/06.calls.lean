/-! 06: contracts over the abstract heap, and calls -/
def Aof (ρ : Id4 → Nat) (L : List Id4) (sz : Nat) : Nat → Prop := fun q => (∃ i ∈ L, q = ρ i) ∨ sz ≤ q
def WB (g : va_G) (cy : Nat → ClassId) (ρ : Id4 → Nat) (L : List Id4) (σ : Hp) (t : State) : Prop := va_P g vwCl (wsOf ρ cy L σ) t.heap ∧ va_K g vwCl (tysOf cy) t
def WRs (g : va_G) (cy : Nat → ClassId) (ρ : Id4 → Nat) (L : List Id4) (σ : Hp) (sz : Nat) (S : State) : Prop := S.heap.size = sz ∧ va_P g vwCl (wsOf ρ cy L σ) S.heap ∧ va_K g vwCl (tysOf cy) S ∧ va_D (fun _ => True) (wsA ρ L) ∧ ZZ ρ (Aof ρ L sz) S
theorem Aof_hA {ρ : Id4 → Nat} {L : List Id4} {sz : Nat} : ∀ q, sz ≤ q → Aof ρ L sz q := fun _ h => Or.inr h
theorem Aof_D {ρ : Id4 → Nat} {L : List Id4} {sz : Nat} (h : va_D (fun _ => True) (wsA ρ L)) : va_D (Aof ρ L sz) (wsA ρ L) := by
  refine ⟨h.1, fun k q hq => Or.inl ?_⟩
  unfold wsA at hq
  rw [List.getElem?_map] at hq
  cases hz : L[k]? with
  | none => rw [hz] at hq; cases hq
  | some i => rw [hz] at hq; cases hq; exact ⟨i, List.mem_of_getElem? hz, rfl⟩
theorem wsA_D {A : Nat → Prop} {ρ : Id4 → Nat} {L : List Id4} (h : va_D A (wsA ρ L)) : ∀ i ∈ L, A (ρ i) := by
  intro i hi
  obtain ⟨k, hk⟩ := List.getElem?_of_mem hi
  exact h.2 k (ρ i, .inr (0, [])) (by unfold wsA; rw [List.getElem?_map, hk]; rfl)
theorem EX.same {s t : State} (h : s.vm = t.vm) (hE : EX s) : EX t := ⟨fun x hx => va_Nw.same rfl h (hE.1 x hx), fun x hx => va_Nw.same rfl h (hE.2.1 x hx), fun x hx y hy n => va_Nc.moved (h ▸ Vm.Alike.refl s.vm) (hE.2.2 x hx y hy n)⟩
theorem EX.warm {s t : State} (h : s.WarmedH t.vm) (hE : EX s) : EX t := ⟨fun x hx => va_Nw.warmD h (hE.1 x hx), fun x hx => va_tabs rfl (rfl : (s.setVm t.vm).vm = t.vm) (by rw [Cond.castable_setVm h.alike]; exact hE.2.1 x hx), fun x hx y hy n => va_Nc.moved h.alike (hE.2.2 x hx y hy n)⟩
theorem ZZ.same {ρ : Id4 → Nat} {A : Nat → Prop} {s t : State} (hvm : s.vm = t.vm) (hh : t.heap = s.heap) (h : ZZ ρ A s) : ZZ ρ A t := by
  obtain ⟨h1, h2, h3, h4, h5, h6, ⟨h7, h9⟩, h8⟩ := h
  unfold ZZ
  rw [hh]
  have ha : s.vm.Alike t.vm := hvm ▸ Vm.Alike.refl s.vm
  exact ⟨vx_Zq.moved ha h1, vx_Zq.moved ha h2, fun x hx => va_Nw.same rfl hvm (h3 x hx), fun x hx => (h4 x hx).elim fun a q => ⟨a, vk_R.same hvm.symm q⟩, fun x hx => vk_R.same hvm.symm (h5 x hx), vk_S.moved ha h6, ⟨va_Z.moved ha h7, ZF.moved ha h9⟩, EX.same hvm h8⟩
theorem ZZ.call {ρ : Id4 → Nat} {A B : Nat → Prop} {s t : State} {H : Heap} (hW : s.WarmedH t.vm) (hh : t.heap = H) (hk : ∀ a : Nat, a < s.heap.size → ¬ A a → H[a]? = s.heap[a]?) (hn : ∀ q, B q → A q) (h : ZZ ρ A s) : ZZ ρ B t := by
  obtain ⟨h1, h2, h3, h4, h5, h6, ⟨h7, h9⟩, h8⟩ := h
  unfold ZZ
  rw [hh]
  have ha : s.vm.Alike t.vm := hW.alike
  exact ⟨vx_Zq.moved ha ((h1.kept hk).narrow hn), vx_Zq.moved ha ((h2.kept hk).narrow hn), fun x hx => va_Nw.warmM hW (h3 x hx), fun x hx => (h4 x hx).elim fun a q => ⟨a, vk_R.warm hW q⟩, fun x hx => vk_R.warm hW (h5 x hx), vk_S.moved ha ((h6.kept hk).narrow hn), ⟨va_Z.moved ha ((h7.kept hk).narrow hn), ZF.moved ha ((h9.kept hk).narrow hn)⟩, EX.warm hW h8⟩
/-- what a callee asks of its start, in the caller's heap -/
theorem WRs_call {s U : State} {A : Nat → Prop} {g : va_G} {cy : Nat → ClassId} {ρ : Id4 → Nat} {L : List Id4} {σ : Hp} {H : Heap} {locs : List Loc} (hK : va_K g vwCl (tysOf cy) s) (hD : va_D A (wsA ρ L)) (hA : ∀ q, s.heap.size ≤ q → A q) (hZ : ZZ ρ A s) (hP : va_P g vwCl (wsOf ρ cy L σ) H) (hS : va_S A s.heap H locs) (hU : U.heap = H) (hW : s.WarmedH U.vm) : WRs g cy ρ L σ H.size U := by
  have hn : ∀ q, Aof ρ L H.size q → A q := by
    intro q h
    rcases h with ⟨i, hi, rfl⟩ | h
    · exact wsA_D hD i hi
    · exact hA q (Nat.le_trans hS.1 h)
  refine ⟨by rw [hU], by rw [hU]; exact hP, va_K.moved hW.alike hK, hD.weaken (fun _ _ _ _ => trivial), ?_⟩
  exact ZZ.call hW hU (fun a h1 h2 => hS.2.1 a h1 h2) hn hZ
theorem WRs_blind {g : va_G} {cy : Nat → ClassId} {ρ : Id4 → Nat} {L : List Id4} {σ : Hp} {sz : Nat} {av : List Value} : FrameBlind (va_Pc av (WRs g cy ρ L σ sz)) := by
  intro a U g9 mk q
  obtain ⟨q0, q1, q2, q3, q4, q5⟩ := q
  exact ⟨q0, q1, q2, va_K.moved (u := U) (U := U.calling g9 mk a) (Vm.Alike.refl U.vm) q3, q4, ZZ.same (t := U.calling g9 mk a) rfl rfl q5⟩
def PC (g : va_G) (cy : Nat → ClassId) (ρ : Id4 → Nat) (σ : Hp) (sz : Nat) (args : List AV) : Array Value → State → Prop := va_Pc (args.map (cv ρ)) (WRs g cy ρ Lall σ sz)
def QI (g : va_G) (cy : Nat → ClassId) (ρ : Id4 → Nat) (A : Nat → Prop) (Q : Int → Hp → Prop) : Array Value → State → Outcome → State → Prop := va_Qi (fun (r : Int32) (u : Int × Hp) => r = Int32.ofInt u.1 ∧ Q u.1 u.2) (fun u t => WB g cy ρ Lall u.2 t) A
def QV (g : va_G) (cy : Nat → ClassId) (ρ : Id4 → Nat) (A : Nat → Prop) (Q : Hp → Prop) : Array Value → State → Outcome → State → Prop := va_Qv (fun (u : Hp) => Q u) (fun u t => WB g cy ρ Lall u t) A
def XQ (g : va_G) (cy : Nat → ClassId) (ρ : Id4 → Nat) (A : Nat → Prop) (QX : String → Hp → Prop) : String → State → State → Prop := vx_X (fun (_ : Hp) => True) (fun E u t => QX E u ∧ WB g cy ρ Lall u t) A
/-- contracts: a whole number or nothing comes back (CtI, CtV); or it may throw (CxI, CxV) -/
def CtI (d U : Nat) (y : MethodName) (bc : ByteArray) (mL : Nat) (ret : Option FieldType) (args : List AV) (σ : Hp) (Q : Int → Hp → Prop) : Prop :=
  ∀ (l : Launch) (g : va_G) (cy : Nat → ClassId) (ρ : Id4 → Nat) (sz : Nat), l.stackTraces = false → Met l y (Cond.code y bc mL ret :: Gw) (rmOf d U) (PC g cy ρ σ sz args) (QI g cy ρ (Aof ρ Lall sz) Q) U (64 * U) (Aof ρ Lall sz)
def CtV (d U : Nat) (y : MethodName) (bc : ByteArray) (mL : Nat) (ret : Option FieldType) (args : List AV) (σ : Hp) (Q : Hp → Prop) : Prop :=
  ∀ (l : Launch) (g : va_G) (cy : Nat → ClassId) (ρ : Id4 → Nat) (sz : Nat), l.stackTraces = false → Met l y (Cond.code y bc mL ret :: Gw) (rmOf d U) (PC g cy ρ σ sz args) (QV g cy ρ (Aof ρ Lall sz) Q) U (64 * U) (Aof ρ Lall sz)
def CxI (d U : Nat) (y : MethodName) (bc : ByteArray) (mL : Nat) (ret : Option FieldType) (args : List AV) (σ : Hp) (Q : Int → Hp → Prop) (QX : String → Hp → Prop) : Prop :=
  ∀ (l : Launch) (g : va_G) (cy : Nat → ClassId) (ρ : Id4 → Nat) (sz : Nat), l.stackTraces = false → vx_Met l y (Cond.code y bc mL ret :: Gw) (rmOf d U) (PC g cy ρ σ sz args) (QI g cy ρ (Aof ρ Lall sz) Q) (XQ g cy ρ (Aof ρ Lall sz) QX) U (64 * U) (Aof ρ Lall sz)
def CxV (d U : Nat) (y : MethodName) (bc : ByteArray) (mL : Nat) (ret : Option FieldType) (args : List AV) (σ : Hp) (Q : Hp → Prop) (QX : String → Hp → Prop) : Prop :=
  ∀ (l : Launch) (g : va_G) (cy : Nat → ClassId) (ρ : Id4 → Nat) (sz : Nat), l.stackTraces = false → vx_Met l y (Cond.code y bc mL ret :: Gw) (rmOf d U) (PC g cy ρ σ sz args) (QV g cy ρ (Aof ρ Lall sz) Q) (XQ g cy ρ (Aof ρ Lall sz) QX) U (64 * U) (Aof ρ Lall sz)
def PU (σ : Hp) (e : Int) : Int → Hp → Prop := fun v σ' => v = e ∧ σ' = σ
-- the ends that a body owes
def EI (X : Cx) (K : Kx) (U : Nat) (Q : Int → Hp → Prop) : State → Prop := match X, K with
  | (_, _, _, _, s, _, args, below, _, _), (g, cy, A, _, ρ, _) => MQ below (QI g cy ρ A Q) args s U (64 * U) A
def EV (X : Cx) (K : Kx) (U : Nat) (Q : Hp → Prop) : State → Prop := match X, K with
  | (_, _, _, _, s, _, args, below, _, _), (g, cy, A, _, ρ, _) => MQ below (QV g cy ρ A Q) args s U (64 * U) A
def XI (X : Cx) (K : Kx) (U : Nat) (Q : Int → Hp → Prop) (QX : String → Hp → Prop) : State → Prop := match X, K with
  | (_, _, _, _, s, _, args, below, _, _), (g, cy, A, _, ρ, _) => vx_MQ below (QI g cy ρ A Q) (XQ g cy ρ A QX) args s U (64 * U) A
def XV (X : Cx) (K : Kx) (U : Nat) (Q : Hp → Prop) (QX : String → Hp → Prop) : State → Prop := match X, K with
  | (_, _, _, _, s, _, args, below, _, _), (g, cy, A, _, ρ, _) => vx_MQ below (QV g cy ρ A Q) (XQ g cy ρ A QX) args s U (64 * U) A
def narrowArgs (args : List AV) : Bool := args.all fun v => !wide v
theorem lg_sl_args {ρ : Id4 → Nat} : ∀ (args : List AV), narrowArgs args = true → lg_sl (args.map (cv ρ)) = args.map (fun v => Slot.val (cv ρ v))
  | [], _ => rfl
  | v :: r, h => by
    have h1 : wide v = false := by
      have := List.all_eq_true.mp h v List.mem_cons_self
      simpa using this
    have h2 : narrowArgs r = true := List.all_eq_true.mpr fun x hx => List.all_eq_true.mp h x (List.mem_cons_of_mem _ hx)
    have ih := lg_sl_args (ρ := ρ) r h2
    show (if (cv ρ v).category = 2 then [Slot.val (cv ρ v), Slot.second] else [Slot.val (cv ρ v)]) ++ lg_sl (r.map (cv ρ)) = Slot.val (cv ρ v) :: r.map (fun v => Slot.val (cv ρ v))
    rw [cv_cat h1, ih]
    rfl
theorem lh_entry {ρ : Id4 → Nat} {args : List AV} {mL : Nat} (hw : narrowArgs args = true) (hn : args.length ≤ mL) : LH ρ (lg_sl (args.map (cv ρ)) ++ List.replicate (mL - (lg_sl (args.map (cv ρ))).length) Slot.unset).toArray mL (args ++ List.replicate (mL - args.length) aX) := by
  have e := lg_sl_args (ρ := ρ) args hw
  have h0 := lv_entry (args.map (cv ρ)) (n := mL) (by rw [e, List.length_map]; exact hn)
  refine ⟨h0.1, h0.2.1, fun i v hi hx => ?_⟩
  by_cases hl : i < args.length
  · rw [List.getElem?_append_left hl] at hi
    rw [e, List.getElem?_toArray, List.getElem?_append_left (by rw [List.length_map]; exact hl), List.getElem?_map, hi]
    rfl
  · rw [List.getElem?_append_right (Nat.le_of_not_lt hl)] at hi
    have := List.eq_of_mem_replicate (List.mem_of_getElem? hi)
    subst this
    cases hx

theorem CtI.mk {d U : Nat} {y : MethodName} {bc : ByteArray} {mL : Nat} {ret : Option FieldType} {args : List AV} {σ : Hp} {Q : Int → Hp → Prop} (hy : plainName y.cls = true) (hw : narrowArgs args = true) (hn : args.length ≤ mL) (h : ∀ (X : Cx) (K : Kx), Fx X K bc y.cls ret d U false → K.2.2.2.1 = mL → AW X K 0 (args ++ List.replicate (mL - args.length) aX) [] σ 0 (EI X K U Q)) : CtI d U y bc mL ret args σ Q := by
  intro l g cy ρ sz htr
  refine Met.ofW (cc := bc) (maxL := mL) (ret := ret) hy rfl ?_
  intro p e s m args' below meth c s₁ B hml hv
  obtain ⟨rfl, hsz, hP, hK, hD0, hZ⟩ := hv
  subst hsz
  have hts := atoms_spec (ws := Cond.code y bc mL ret :: Gw) B.pre
  have F : Fx (p, l, e, rmOf d U, s, m, (args.map (cv ρ)).toArray, below, meth, c) (g, cy, Aof ρ Lall s.heap.size, mL, ρ, Lall) bc y.cls ret d U false :=
    ⟨B.exec, B.bytes, hml, findClass_of_methodNamed B.named, fun w h => hts w (List.mem_cons_of_mem _ h), hK, Lall_nodup, Aof_D hD0, Aof_hA, B.notSynchronized, B.returns, rfl, htr, hZ, (fun z => by cases z), rfl⟩
  have k := h _ _ F rfl s.heap [] _ hP va_S.rf (lh_entry (ρ := ρ) hw hn)
  rw [lg_entry_eq]
  exact k

theorem CtV.mk {d U : Nat} {y : MethodName} {bc : ByteArray} {mL : Nat} {ret : Option FieldType} {args : List AV} {σ : Hp} {Q : Hp → Prop} (hy : plainName y.cls = true) (hw : narrowArgs args = true) (hn : args.length ≤ mL) (h : ∀ (X : Cx) (K : Kx), Fx X K bc y.cls ret d U false → K.2.2.2.1 = mL → AW X K 0 (args ++ List.replicate (mL - args.length) aX) [] σ 0 (EV X K U Q)) : CtV d U y bc mL ret args σ Q := by
  intro l g cy ρ sz htr
  refine Met.ofW (cc := bc) (maxL := mL) (ret := ret) hy rfl ?_
  intro p e s m args' below meth c s₁ B hml hv
  obtain ⟨rfl, hsz, hP, hK, hD0, hZ⟩ := hv
  subst hsz
  have hts := atoms_spec (ws := Cond.code y bc mL ret :: Gw) B.pre
  have F : Fx (p, l, e, rmOf d U, s, m, (args.map (cv ρ)).toArray, below, meth, c) (g, cy, Aof ρ Lall s.heap.size, mL, ρ, Lall) bc y.cls ret d U false :=
    ⟨B.exec, B.bytes, hml, findClass_of_methodNamed B.named, fun w h => hts w (List.mem_cons_of_mem _ h), hK, Lall_nodup, Aof_D hD0, Aof_hA, B.notSynchronized, B.returns, rfl, htr, hZ, (fun z => by cases z), rfl⟩
  have k := h _ _ F rfl s.heap [] _ hP va_S.rf (lh_entry (ρ := ρ) hw hn)
  rw [lg_entry_eq]
  exact k

theorem CxI.mk {d U : Nat} {y : MethodName} {bc : ByteArray} {mL : Nat} {ret : Option FieldType} {args : List AV} {σ : Hp} {Q : Int → Hp → Prop} {QX : String → Hp → Prop} (hy : plainName y.cls = true) (hw : narrowArgs args = true) (hn : args.length ≤ mL) (h : ∀ (X : Cx) (K : Kx), Fx X K bc y.cls ret d U true → K.2.2.2.1 = mL → AW X K 0 (args ++ List.replicate (mL - args.length) aX) [] σ 0 (XI X K U Q QX)) : CxI d U y bc mL ret args σ Q QX := by
  intro l g cy ρ sz htr
  refine vx_ofW (cc := bc) (maxL := mL) (ret := ret) hy rfl ?_
  intro p e s m args' below meth c s₁ B hml htb hv
  obtain ⟨rfl, hsz, hP, hK, hD0, hZ⟩ := hv
  subst hsz
  have hts := atoms_spec (ws := Cond.code y bc mL ret :: Gw) B.pre
  have F : Fx (p, l, e, rmOf d U, s, m, (args.map (cv ρ)).toArray, below, meth, c) (g, cy, Aof ρ Lall s.heap.size, mL, ρ, Lall) bc y.cls ret d U true :=
    ⟨B.exec, B.bytes, hml, findClass_of_methodNamed B.named, fun w h => hts w (List.mem_cons_of_mem _ h), hK, Lall_nodup, Aof_D hD0, Aof_hA, B.notSynchronized, B.returns, rfl, htr, hZ, fun _ => htb, rfl⟩
  have k := h _ _ F rfl s.heap [] _ hP va_S.rf (lh_entry (ρ := ρ) hw hn)
  rw [lg_entry_eq]
  exact k

theorem CxV.mk {d U : Nat} {y : MethodName} {bc : ByteArray} {mL : Nat} {ret : Option FieldType} {args : List AV} {σ : Hp} {Q : Hp → Prop} {QX : String → Hp → Prop} (hy : plainName y.cls = true) (hw : narrowArgs args = true) (hn : args.length ≤ mL) (h : ∀ (X : Cx) (K : Kx), Fx X K bc y.cls ret d U true → K.2.2.2.1 = mL → AW X K 0 (args ++ List.replicate (mL - args.length) aX) [] σ 0 (XV X K U Q QX)) : CxV d U y bc mL ret args σ Q QX := by
  intro l g cy ρ sz htr
  refine vx_ofW (cc := bc) (maxL := mL) (ret := ret) hy rfl ?_
  intro p e s m args' below meth c s₁ B hml htb hv
  obtain ⟨rfl, hsz, hP, hK, hD0, hZ⟩ := hv
  subst hsz
  have hts := atoms_spec (ws := Cond.code y bc mL ret :: Gw) B.pre
  have F : Fx (p, l, e, rmOf d U, s, m, (args.map (cv ρ)).toArray, below, meth, c) (g, cy, Aof ρ Lall s.heap.size, mL, ρ, Lall) bc y.cls ret d U true :=
    ⟨B.exec, B.bytes, hml, findClass_of_methodNamed B.named, fun w h => hts w (List.mem_cons_of_mem _ h), hK, Lall_nodup, Aof_D hD0, Aof_hA, B.notSynchronized, B.returns, rfl, htr, hZ, fun _ => htb, rfl⟩
  have k := h _ _ F rfl s.heap [] _ hP va_S.rf (lh_entry (ρ := ρ) hw hn)
  rw [lg_entry_eq]
  exact k

def stW : List AV → Nat
  | [] => 0
  | v :: r => (if wide v then 2 else 1) + stW r
theorem st_cat {ρ : Id4 → Nat} : ∀ (st : List AV), ((st.map (cv ρ)).map fun v => v.category).sum ≤ stW st
  | [] => Nat.le_refl _
  | v :: r => by
    have ih := st_cat (ρ := ρ) r
    have h : (cv ρ v).category ≤ (if wide v then 2 else 1) := by
      by_cases hw : wide v = true
      · rw [if_pos hw]
        unfold Value.category
        split <;> decide
      · rw [if_neg hw, cv_cat (by simpa using hw)]
        exact Nat.le_refl 1
    show (cv ρ v).category + ((r.map (cv ρ)).map fun v => v.category).sum ≤ (if wide v then 2 else 1) + stW r
    omega
section RETS
variable {X : Cx} {K : Kx} {cc : ByteArray} {own : String} {ret : Option FieldType} {d U pc u : Nat} {lv st : List AV} {σ : Hp} {tb : Bool}
theorem aw_iret {Q : Int → Hp → Prop} {v : Int} {ty : FieldType} (F : Fx X K cc own (some ty) d U tb) (hd : decode cc pc = .ok (.ireturn, 1)) (hn : narrow ty (.int (Int32.ofInt v)) = .int (Int32.ofInt v)) (hu : u ≤ U) (hq : Q v σ) : AW X K pc lv [aI v] σ u (EI X K U Q) := by
  obtain ⟨p, l, e, R, s, m, args, below, meth, c⟩ := X
  obtain ⟨g, cy, A, nL, ρ, L⟩ := K
  obtain ⟨hx, hb, hml, hown, hts, hK, hnd, hD, hA, hlk, hret, hR, htr, hZ, hE⟩ := F
  subst hR
  obtain ⟨hE1, rfl⟩ := hE
  intro H locs ls hP hS hl
  refine W.widen hu (Nat.mul_le_mul_left 64 hu) ?_
  exact W.zret hx hb hret hn (fun t ht hW => ⟨⟨Int32.ofInt v, (v, σ), rfl, ⟨rfl, hq⟩, by rw [ht]; exact hP, va_K.moved hW.alike hK⟩, hS.F ht⟩) hS.2.2 hd hlk
theorem aw_vret {Q : Hp → Prop} (F : Fx X K cc own none d U tb) (hd : decode cc pc = .ok (.return_, 1)) (hu : u ≤ U) (hq : Q σ) : AW X K pc lv [] σ u (EV X K U Q) := by
  obtain ⟨p, l, e, R, s, m, args, below, meth, c⟩ := X
  obtain ⟨g, cy, A, nL, ρ, L⟩ := K
  obtain ⟨hx, hb, hml, hown, hts, hK, hnd, hD, hA, hlk, hret, hR, htr, hZ, hE⟩ := F
  subst hR
  obtain ⟨hE1, rfl⟩ := hE
  intro H locs ls hP hS hl
  refine W.widen hu (Nat.mul_le_mul_left 64 hu) ?_
  exact W.vret hx hb hret (fun t ht hW => ⟨⟨σ, rfl, hq, by rw [ht]; exact hP, va_K.moved hW.alike hK⟩, hS.F ht⟩) hS.2.2 hd hlk
theorem aw_xiret {QX : String → Hp → Prop} {Q : Int → Hp → Prop} {v : Int} {ty : FieldType} (F : Fx X K cc own (some ty) d U tb) (hd : decode cc pc = .ok (.ireturn, 1)) (hn : narrow ty (.int (Int32.ofInt v)) = .int (Int32.ofInt v)) (hu : u ≤ U) (hq : Q v σ) : AW X K pc lv [aI v] σ u (XI X K U Q QX) := by
  obtain ⟨p, l, e, R, s, m, args, below, meth, c⟩ := X
  obtain ⟨g, cy, A, nL, ρ, L⟩ := K
  obtain ⟨hx, hb, hml, hown, hts, hK, hnd, hD, hA, hlk, hret, hR, htr, hZ, hE⟩ := F
  subst hR
  obtain ⟨hE1, rfl⟩ := hE
  intro H locs ls hP hS hl
  refine vx_ret ?_
  refine W.widen hu (Nat.mul_le_mul_left 64 hu) ?_
  exact W.zret hx hb hret hn (fun t ht hW => ⟨⟨Int32.ofInt v, (v, σ), rfl, ⟨rfl, hq⟩, by rw [ht]; exact hP, va_K.moved hW.alike hK⟩, hS.F ht⟩) hS.2.2 hd hlk
theorem aw_xvret {QX : String → Hp → Prop} {Q : Hp → Prop} (F : Fx X K cc own none d U tb) (hd : decode cc pc = .ok (.return_, 1)) (hu : u ≤ U) (hq : Q σ) : AW X K pc lv [] σ u (XV X K U Q QX) := by
  obtain ⟨p, l, e, R, s, m, args, below, meth, c⟩ := X
  obtain ⟨g, cy, A, nL, ρ, L⟩ := K
  obtain ⟨hx, hb, hml, hown, hts, hK, hnd, hD, hA, hlk, hret, hR, htr, hZ, hE⟩ := F
  subst hR
  obtain ⟨hE1, rfl⟩ := hE
  intro H locs ls hP hS hl
  refine vx_ret ?_
  refine W.widen hu (Nat.mul_le_mul_left 64 hu) ?_
  exact W.vret hx hb hret (fun t ht hW => ⟨⟨σ, rfl, hq, by rw [ht]; exact hP, va_K.moved hW.alike hK⟩, hS.F ht⟩) hS.2.2 hd hlk
theorem aw_throwI {Q : Int → Hp → Prop} {QX : String → Hp → Prop} {ik is ic : Nat} {cls text : String} (F : Fx X K cc own ret d U true) (d0 : decode cc pc = .ok (.new ik, 3)) (d3 : decode cc (pc + 3) = .ok (.dup, 1)) (d4 : decode cc (pc + 4) = .ok (.ldc is, 2)) (d6 : decode cc (pc + 6) = .ok (.invokespecial ic, 3)) (d9 : decode cc (pc + 9) = .ok (.athrow, 1)) (hT : TH own ik is ic cls text) (hd9 : 12 ≤ d) (hu : u + 1 ≤ U) (hst : stW st ≤ 8) (hq : QX cls σ) : AW X K pc lv st σ u (XI X K U Q QX) := by
  obtain ⟨p, l, e, R, s, m, args, below, meth, c⟩ := X
  obtain ⟨g, cy, A, nL, ρ, L⟩ := K
  obtain ⟨hx, hb, hml, hown, hts, hK, hnd, hD, hA, hlk, hret, hR, htr, hZ, hE⟩ := F
  subst hR
  obtain ⟨hE1, rfl⟩ := hE
  intro H locs ls hP hS hl
  obtain ⟨t1, t2, t3, t4, t5, t6, t7, t8⟩ := hT
  obtain ⟨z1, z2, z3, z4, z5, z6, z7, z8⟩ := hZ
  obtain ⟨sa, hsa⟩ := z4 _ t2
  have hat : ∀ w ∈ vx_atS own ic cls EN, w.before args s = true := vx_hat (fun w hw => hts w (t6 w hw)) (fun w hw => t7 ▸ hw) (vx_c (va_Nw.use rfl (z8.1 _ (by decide))) (vx_c (va_Nw.use rfl (z8.1 _ (by decide))) (vx_c (va_Nw.use rfl (z8.1 _ (by decide))) (vx_c (va_Nw.use rfl (z8.2.1 _ t1)) vx_n))))
  exact vx_throwS hx hb htr hown t3 (fun n hn => by simp only [EN, List.mem_cons, List.not_mem_nil, or_false] at hn; rcases hn with rfl | rfl <;> decide +kernel) (hts _ t4) (hts _ t5) hsa hat t8 z1 z2 hS (hl.1.trans hml.symm) d0 d3 d4 d6 d9 (fun x hx => absurd (hE1 rfl x hx) id) (by show 2 + 3 < d; omega) (by have := st_cat (ρ := ρ) st; show _ + (13 * (2 + 1) + 43) ≤ 80 * d; omega) hu (by show 64 * u + 6 ≤ 64 * U; omega) hlk (fun t ha hz hk => ⟨σ, trivial, ⟨hq, hP.kept (fun k x hx => hk x.1 ((hP k x hx).lt)), va_K.moved ha hK⟩, ⟨Nat.le_trans hS.1 hz, fun q h1 h2 => (hk q (Nat.lt_of_lt_of_le h1 hS.1)).trans (hS.2.1 q h1 h2)⟩⟩) hS.2.2 hu (by show 64 * u + 6 ≤ 64 * U; omega)
theorem aw_throwIW {Q : Int → Hp → Prop} {QX : String → Hp → Prop} {ik is ic : Nat} {cls text : String} (F : Fx X K cc own ret d U true) (d0 : decode cc pc = .ok (.new ik, 3)) (d3 : decode cc (pc + 3) = .ok (.dup, 1)) (d4 : decode cc (pc + 4) = .ok (.ldc_w is, 3)) (d7 : decode cc (pc + 7) = .ok (.invokespecial ic, 3)) (d10 : decode cc (pc + 10) = .ok (.athrow, 1)) (hT : TH own ik is ic cls text) (hd9 : 12 ≤ d) (hu : u + 1 ≤ U) (hst : stW st ≤ 8) (hq : QX cls σ) : AW X K pc lv st σ u (XI X K U Q QX) := by
  obtain ⟨p, l, e, R, s, m, args, below, meth, c⟩ := X
  obtain ⟨g, cy, A, nL, ρ, L⟩ := K
  obtain ⟨hx, hb, hml, hown, hts, hK, hnd, hD, hA, hlk, hret, hR, htr, hZ, hE⟩ := F
  subst hR
  obtain ⟨hE1, rfl⟩ := hE
  intro H locs ls hP hS hl
  obtain ⟨t1, t2, t3, t4, t5, t6, t7, t8⟩ := hT
  obtain ⟨z1, z2, z3, z4, z5, z6, z7, z8⟩ := hZ
  obtain ⟨sa, hsa⟩ := z4 _ t2
  have hat : ∀ w ∈ vx_atS own ic cls EN, w.before args s = true := vx_hat (fun w hw => hts w (t6 w hw)) (fun w hw => t7 ▸ hw) (vx_c (va_Nw.use rfl (z8.1 _ (by decide))) (vx_c (va_Nw.use rfl (z8.1 _ (by decide))) (vx_c (va_Nw.use rfl (z8.1 _ (by decide))) (vx_c (va_Nw.use rfl (z8.2.1 _ t1)) vx_n))))
  exact vx_throwSW hx hb htr hown t3 (fun n hn => by simp only [EN, List.mem_cons, List.not_mem_nil, or_false] at hn; rcases hn with rfl | rfl <;> decide +kernel) (hts _ t4) (hts _ t5) hsa hat t8 z1 z2 hS (hl.1.trans hml.symm) d0 d3 d4 d7 d10 (fun x hx => absurd (hE1 rfl x hx) id) (by show 2 + 3 < d; omega) (by have := st_cat (ρ := ρ) st; show _ + (13 * (2 + 1) + 43) ≤ 80 * d; omega) hu (by show 64 * u + 6 ≤ 64 * U; omega) hlk (fun t ha hz hk => ⟨σ, trivial, ⟨hq, hP.kept (fun k x hx => hk x.1 ((hP k x hx).lt)), va_K.moved ha hK⟩, ⟨Nat.le_trans hS.1 hz, fun q h1 h2 => (hk q (Nat.lt_of_lt_of_le h1 hS.1)).trans (hS.2.1 q h1 h2)⟩⟩) hS.2.2 hu (by show 64 * u + 6 ≤ 64 * U; omega)
theorem aw_throwV {Q : Hp → Prop} {QX : String → Hp → Prop} {ik is ic : Nat} {cls text : String} (F : Fx X K cc own ret d U true) (d0 : decode cc pc = .ok (.new ik, 3)) (d3 : decode cc (pc + 3) = .ok (.dup, 1)) (d4 : decode cc (pc + 4) = .ok (.ldc is, 2)) (d6 : decode cc (pc + 6) = .ok (.invokespecial ic, 3)) (d9 : decode cc (pc + 9) = .ok (.athrow, 1)) (hT : TH own ik is ic cls text) (hd9 : 12 ≤ d) (hu : u + 1 ≤ U) (hst : stW st ≤ 8) (hq : QX cls σ) : AW X K pc lv st σ u (XV X K U Q QX) := by
  obtain ⟨p, l, e, R, s, m, args, below, meth, c⟩ := X
  obtain ⟨g, cy, A, nL, ρ, L⟩ := K
  obtain ⟨hx, hb, hml, hown, hts, hK, hnd, hD, hA, hlk, hret, hR, htr, hZ, hE⟩ := F
  subst hR
  obtain ⟨hE1, rfl⟩ := hE
  intro H locs ls hP hS hl
  obtain ⟨t1, t2, t3, t4, t5, t6, t7, t8⟩ := hT
  obtain ⟨z1, z2, z3, z4, z5, z6, z7, z8⟩ := hZ
  obtain ⟨sa, hsa⟩ := z4 _ t2
  have hat : ∀ w ∈ vx_atS own ic cls EN, w.before args s = true := vx_hat (fun w hw => hts w (t6 w hw)) (fun w hw => t7 ▸ hw) (vx_c (va_Nw.use rfl (z8.1 _ (by decide))) (vx_c (va_Nw.use rfl (z8.1 _ (by decide))) (vx_c (va_Nw.use rfl (z8.1 _ (by decide))) (vx_c (va_Nw.use rfl (z8.2.1 _ t1)) vx_n))))
  exact vx_throwS hx hb htr hown t3 (fun n hn => by simp only [EN, List.mem_cons, List.not_mem_nil, or_false] at hn; rcases hn with rfl | rfl <;> decide +kernel) (hts _ t4) (hts _ t5) hsa hat t8 z1 z2 hS (hl.1.trans hml.symm) d0 d3 d4 d6 d9 (fun x hx => absurd (hE1 rfl x hx) id) (by show 2 + 3 < d; omega) (by have := st_cat (ρ := ρ) st; show _ + (13 * (2 + 1) + 43) ≤ 80 * d; omega) hu (by show 64 * u + 6 ≤ 64 * U; omega) hlk (fun t ha hz hk => ⟨σ, trivial, ⟨hq, hP.kept (fun k x hx => hk x.1 ((hP k x hx).lt)), va_K.moved ha hK⟩, ⟨Nat.le_trans hS.1 hz, fun q h1 h2 => (hk q (Nat.lt_of_lt_of_le h1 hS.1)).trans (hS.2.1 q h1 h2)⟩⟩) hS.2.2 hu (by show 64 * u + 6 ≤ 64 * U; omega)
theorem aw_throwVW {Q : Hp → Prop} {QX : String → Hp → Prop} {ik is ic : Nat} {cls text : String} (F : Fx X K cc own ret d U true) (d0 : decode cc pc = .ok (.new ik, 3)) (d3 : decode cc (pc + 3) = .ok (.dup, 1)) (d4 : decode cc (pc + 4) = .ok (.ldc_w is, 3)) (d7 : decode cc (pc + 7) = .ok (.invokespecial ic, 3)) (d10 : decode cc (pc + 10) = .ok (.athrow, 1)) (hT : TH own ik is ic cls text) (hd9 : 12 ≤ d) (hu : u + 1 ≤ U) (hst : stW st ≤ 8) (hq : QX cls σ) : AW X K pc lv st σ u (XV X K U Q QX) := by
  obtain ⟨p, l, e, R, s, m, args, below, meth, c⟩ := X
  obtain ⟨g, cy, A, nL, ρ, L⟩ := K
  obtain ⟨hx, hb, hml, hown, hts, hK, hnd, hD, hA, hlk, hret, hR, htr, hZ, hE⟩ := F
  subst hR
  obtain ⟨hE1, rfl⟩ := hE
  intro H locs ls hP hS hl
  obtain ⟨t1, t2, t3, t4, t5, t6, t7, t8⟩ := hT
  obtain ⟨z1, z2, z3, z4, z5, z6, z7, z8⟩ := hZ
  obtain ⟨sa, hsa⟩ := z4 _ t2
  have hat : ∀ w ∈ vx_atS own ic cls EN, w.before args s = true := vx_hat (fun w hw => hts w (t6 w hw)) (fun w hw => t7 ▸ hw) (vx_c (va_Nw.use rfl (z8.1 _ (by decide))) (vx_c (va_Nw.use rfl (z8.1 _ (by decide))) (vx_c (va_Nw.use rfl (z8.1 _ (by decide))) (vx_c (va_Nw.use rfl (z8.2.1 _ t1)) vx_n))))
  exact vx_throwSW hx hb htr hown t3 (fun n hn => by simp only [EN, List.mem_cons, List.not_mem_nil, or_false] at hn; rcases hn with rfl | rfl <;> decide +kernel) (hts _ t4) (hts _ t5) hsa hat t8 z1 z2 hS (hl.1.trans hml.symm) d0 d3 d4 d7 d10 (fun x hx => absurd (hE1 rfl x hx) id) (by show 2 + 3 < d; omega) (by have := st_cat (ρ := ρ) st; show _ + (13 * (2 + 1) + 43) ≤ 80 * d; omega) hu (by show 64 * u + 6 ≤ 64 * U; omega) hlk (fun t ha hz hk => ⟨σ, trivial, ⟨hq, hP.kept (fun k x hx => hk x.1 ((hP k x hx).lt)), va_K.moved ha hK⟩, ⟨Nat.le_trans hS.1 hz, fun q h1 h2 => (hk q (Nat.lt_of_lt_of_le h1 hS.1)).trans (hS.2.1 q h1 h2)⟩⟩) hS.2.2 hu (by show 64 * u + 6 ≤ 64 * U; omega)
end RETS
theorem gwGood {w : Cond} (h : w ∈ Gw) : (w.onTables && w.keeps) = true ∨ ∃ ty, w = .arrayClass ty := good_of_word (List.mem_filter.mp h).2
theorem gwIn {ws : List Cond} (h : ∀ w ∈ ws, w ∈ Gw) : GoodIn Gw ws := fun w hw => ⟨h w hw, gwGood (h w hw)⟩
theorem gwCons {y : MethodName} {bc : ByteArray} {mL : Nat} {ret : Option FieldType} (h : Cond.code y bc mL ret ∈ Gw) : ∀ w ∈ (Cond.code y bc mL ret :: Gw), w ∈ Gw := fun w hw => (List.mem_cons.mp hw).elim (fun e => e ▸ h) id
theorem MLV.cw {own : String} {idx : Nat} {y : MethodName} {bc : ByteArray} {mL : Nat} {ret : Option FieldType} {t n d d2 U U2 : Nat} {s : State} {args : Array Value} (h : MLV own idx y bc mL ret t n) (hts : ∀ w ∈ Gw, w.before args s = true) (hd : d2 + 1 ≤ d) : CallW (rmOf d U) s args own y.cls idx y bc mL ret (Cond.code y bc mL ret :: Gw) (rmOf d2 U2) U2 (64 * U2) n := by
  obtain ⟨-, h2, h3, h4, h5, h6, h7, h8⟩ := h
  refine cwV n hts (gwIn (fun w hw => ?_)) rfl rfl rfl ⟨rfl, h2⟩ ⟨hd, by show 8 + (mL + 11) + 80 * d2 ≤ 80 * d; omega⟩
  unfold wsV at hw
  rcases List.mem_append.mp hw with hw | hw
  · simp only [List.mem_cons, List.not_mem_nil, or_false] at hw
    rcases hw with rfl | rfl | rfl | rfl <;> assumption
  · exact gwCons h8 w hw
theorem MLS.cw {own : String} {idx : Nat} {y : MethodName} {bc : ByteArray} {mL : Nat} {ret : Option FieldType} {n d d2 U U2 : Nat} {s : State} {args : Array Value} (h : MLS own idx y bc mL ret n) (hts : ∀ w ∈ Gw, w.before args s = true) (hd : d2 + 1 ≤ d) : CallB (rmOf d U) s args own idx y bc mL ret (Cond.code y bc mL ret :: Gw) (rmOf d2 U2) U2 (64 * U2) n ∧ (Cond.static y).before args s = true := by
  obtain ⟨h2, h3, h4, h5, h6, h7⟩ := h
  refine va_cwS n hts (gwIn (fun w hw => ?_)) rfl rfl rfl h2 ⟨hd, by show 8 + (mL + 11) + 80 * d2 ≤ 80 * d; omega⟩
  unfold va_wsS at hw
  rcases List.mem_append.mp hw with hw | hw
  · simp only [List.mem_cons, List.not_mem_nil, or_false] at hw
    rcases hw with rfl | rfl | rfl <;> assumption
  · exact gwCons h7 w hw
theorem MLN.cw {own host : String} {idx : Nat} {y : MethodName} {bc : ByteArray} {mL : Nat} {ret : Option FieldType} {n d d2 U U2 : Nat} {s : State} {args : Array Value} (h : MLN own idx host y bc mL ret n) (hts : ∀ w ∈ Gw, w.before args s = true) (hN : NW s) (hd : d2 + 1 ≤ d) : va_CN (rmOf d U) s args own idx y host bc mL ret (Cond.code y bc mL ret :: Gw) (rmOf d2 U2) U2 (64 * U2) n ∧ (Cond.static y).before args s = true ∧ True := by
  obtain ⟨h2, h3, h4, h5, h6, h7⟩ := h
  exact ⟨va_cnB n hts (gwIn (gwCons h7)) rfl rfl rfl (hN _ h4) (hts _ h6) h2 ⟨hd, by show 8 + (mL + 11) + 80 * d2 ≤ 80 * d; omega⟩, hts _ h5, trivial⟩
section CALLS
variable {X : Cx} {K : Kx} {cc bc : ByteArray} {own : String} {ret ry : Option FieldType} {d U d2 U2 pc u mL idx t : Nat} {lv st : List AV} {σ : Hp} {tb : Bool} {y : MethodName} {q : Id4} {Q : State → Prop}
theorem aw_callVI0 {Q2 : Int → Hp → Prop} (F : Fx X K cc own ret d U tb) (hd : decode cc pc = .ok (.invokevirtual idx, 3)) (hl9 : MLV own idx y bc mL ry t 0) (hk : kd q = .inl t) (hm : inB q) (hc : CtI d2 0 y bc mL ry [aR q] σ Q2) (hst : stW st ≤ 8) (hdd : d2 + 1 ≤ d) (hu : u ≤ U) (k : ∀ (v : Int) (σ' : Hp), Q2 v σ' → AW X K (pc + 3) lv (aI v :: st) σ' u Q) : AW X K pc lv (aR q :: st) σ u Q := by
  obtain ⟨p, l, e, R, s, m, args, below, meth, c⟩ := X
  obtain ⟨g, cy, A, nL, ρ, L⟩ := K
  obtain ⟨hx, hb, hml, hown, hts, hK, hnd, hD, hA, hlk, hret, hR, htr, hZ, hE⟩ := F
  subst hR
  obtain ⟨hE1, rfl⟩ := hE
  intro H locs ls hP hS hl
  obtain ⟨⟨rr, hr1, hr2⟩, -⟩ := id hl9
  obtain ⟨i, hi, hi2⟩ := ws_at (ρ := ρ) (cy := cy) (σ := σ) (memL (by rw [hk]; intro z; cases z; exact absurd (vw_lt hr1) (by decide)) hm)
  rw [ent_obj hk] at hi2
  have hf9 : ∀ q, Aof ρ Lall H.size q → A q := fun q h => h.elim (fun ⟨i, hi, he⟩ => he ▸ wsA_D hD i hi) (fun h => hA q (Nat.le_trans hS.1 h))
  have hM := hc l g cy ρ H.size htr
  refine va_calli (va_runV (As := [].map (cv ρ)) (rest := st.map (cv ρ)) ⟨hx, hb, hml, hown, hts⟩ hM (hl9.cw hts hdd) ⟨WRs_blind, hr2 ▸ va_recv hK hP hr1 hi2, fun V hV hW => ⟨rfl, WRs_call hK hD hA hZ hP hS hV hW⟩⟩ rfl rfl hl.1 rfl (lv_room (Nat.le_trans (st_cat st) hst)) hd ⟨hu, by show 64 * u + 64 * 0 ≤ 64 * U; omega⟩) hS (fun q _ h => hf9 q h) hf9 (fun v9 u9 t9 H1 locs1 ht hvm hw hB hz1 hk1 hS1 => ?_)
  obtain ⟨hw1, hw2⟩ := hw
  subst hw1
  have hP1 : va_P g vwCl (wsOf ρ cy Lall u9.2) H1 := by rw [← ht]; exact hB.1
  exact k u9.1 u9.2 hw2 H1 locs1 ls hP1 hS1 hl
theorem aw_pcallV0 {e9 : Int} (F : Fx X K cc own ret d U tb) (hd : decode cc pc = .ok (.invokevirtual idx, 3)) (hl9 : MLV own idx y bc mL ry t 0) (hk : kd q = .inl t) (hm : inB q) (hc : CtI d2 0 y bc mL ry [aR q] σ (PU σ e9)) (hst : stW st ≤ 8) (hdd : d2 + 1 ≤ d) (hu : u ≤ U) (k : AW X K (pc + 3) lv (aI e9 :: st) σ u Q) : AW X K pc lv (aR q :: st) σ u Q :=
  aw_callVI0 F hd hl9 hk hm hc hst hdd hu (fun v9 s9 h => by obtain ⟨rfl, rfl⟩ := h; exact k)
theorem aw_xcallVII0 {Q2 : Int → Hp → Prop} {QX2 QX : String → Hp → Prop} {Q9 : Int → Hp → Prop} (F : Fx X K cc own ret d U true) (hd : decode cc pc = .ok (.invokevirtual idx, 3)) (hl9 : MLV own idx y bc mL ry t 0) (hk : kd q = .inl t) (hm : inB q) (hc : CxI d2 U2 y bc mL ry [aR q] σ Q2 QX2) (hst : stW st ≤ 8) (hdd : d2 + 1 ≤ d) (hu : u + U2 ≤ U) (hx2 : ∀ (E : String) (σ' : Hp), QX2 E σ' → QX E σ') (k : ∀ (v : Int) (σ' : Hp), Q2 v σ' → AW X K (pc + 3) lv (aI v :: st) σ' (u + U2) (XI X K U Q9 QX)) : AW X K pc lv (aR q :: st) σ u (XI X K U Q9 QX) := by
  obtain ⟨p, l, e, R, s, m, args, below, meth, c⟩ := X
  obtain ⟨g, cy, A, nL, ρ, L⟩ := K
  obtain ⟨hx, hb, hml, hown, hts, hK, hnd, hD, hA, hlk, hret, hR, htr, hZ, hE⟩ := F
  subst hR
  obtain ⟨hE1, rfl⟩ := hE
  intro H locs ls hP hS hl
  obtain ⟨⟨rr, hr1, hr2⟩, -⟩ := id hl9
  obtain ⟨i, hi, hi2⟩ := ws_at (ρ := ρ) (cy := cy) (σ := σ) (memL (by rw [hk]; intro z; cases z; exact absurd (vw_lt hr1) (by decide)) hm)
  rw [ent_obj hk] at hi2
  have hf9 : ∀ q, Aof ρ Lall H.size q → A q := fun q h => h.elim (fun ⟨i, hi, he⟩ => he ▸ wsA_D hD i hi) (fun h => hA q (Nat.le_trans hS.1 h))
  have hM := hc l g cy ρ H.size htr
  refine vx_calli (vx_runV (As := [].map (cv ρ)) (rest := st.map (cv ρ)) ⟨hx, hb, hml, hown, hts⟩ hM (hl9.cw hts hdd) ⟨WRs_blind, hr2 ▸ va_recv hK hP hr1 hi2, fun V hV hW => ⟨rfl, WRs_call hK hD hA hZ hP hS hV hW⟩⟩ rfl rfl hl.1 rfl (lv_room (Nat.le_trans (st_cat st) hst)) hd ⟨hu, by show 64 * u + 64 * U2 ≤ 64 * U; omega⟩) hS (fun q _ h => hf9 q h) hf9 (fun q _ h => hf9 q h) (fun E ce q9 u9 t9 H1 locs1 ht hvm _ hB hz1 hk1 hS1 hce hv hcl => ?_) (fun v9 u9 t9 H1 locs1 ht hvm hw hB hz1 hk1 hS1 => ?_)
  · obtain ⟨hB0, hB1, hB2⟩ := hB
    refine vx_out (fun x hx => absurd (hE1 rfl x hx) id) hlk hce hv hcl (fun t' ht' hvm' => ⟨u9, trivial, ⟨hx2 E u9 hB0, ?_, va_K.moved hvm' hK⟩, hS1.F ht'⟩) hS1.2.2 hu (by show 64 * u + 64 * U2 ≤ 64 * U; omega)
    rw [ht', ← ht]
    exact hB1
  · obtain ⟨hw1, hw2⟩ := hw
    subst hw1
    have hP1 : va_P g vwCl (wsOf ρ cy Lall u9.2) H1 := by rw [← ht]; exact hB.1
    rw [show 64 * u + 64 * U2 = 64 * (u + U2) by omega]
    exact k u9.1 u9.2 hw2 H1 locs1 ls hP1 hS1 hl
theorem aw_xcallVIV0 {Q2 : Int → Hp → Prop} {QX2 QX : String → Hp → Prop} {Q9 : Hp → Prop} (F : Fx X K cc own ret d U true) (hd : decode cc pc = .ok (.invokevirtual idx, 3)) (hl9 : MLV own idx y bc mL ry t 0) (hk : kd q = .inl t) (hm : inB q) (hc : CxI d2 U2 y bc mL ry [aR q] σ Q2 QX2) (hst : stW st ≤ 8) (hdd : d2 + 1 ≤ d) (hu : u + U2 ≤ U) (hx2 : ∀ (E : String) (σ' : Hp), QX2 E σ' → QX E σ') (k : ∀ (v : Int) (σ' : Hp), Q2 v σ' → AW X K (pc + 3) lv (aI v :: st) σ' (u + U2) (XV X K U Q9 QX)) : AW X K pc lv (aR q :: st) σ u (XV X K U Q9 QX) := by
  obtain ⟨p, l, e, R, s, m, args, below, meth, c⟩ := X
  obtain ⟨g, cy, A, nL, ρ, L⟩ := K
  obtain ⟨hx, hb, hml, hown, hts, hK, hnd, hD, hA, hlk, hret, hR, htr, hZ, hE⟩ := F
  subst hR
  obtain ⟨hE1, rfl⟩ := hE
  intro H locs ls hP hS hl
  obtain ⟨⟨rr, hr1, hr2⟩, -⟩ := id hl9
  obtain ⟨i, hi, hi2⟩ := ws_at (ρ := ρ) (cy := cy) (σ := σ) (memL (by rw [hk]; intro z; cases z; exact absurd (vw_lt hr1) (by decide)) hm)
  rw [ent_obj hk] at hi2
  have hf9 : ∀ q, Aof ρ Lall H.size q → A q := fun q h => h.elim (fun ⟨i, hi, he⟩ => he ▸ wsA_D hD i hi) (fun h => hA q (Nat.le_trans hS.1 h))
  have hM := hc l g cy ρ H.size htr
  refine vx_calli (vx_runV (As := [].map (cv ρ)) (rest := st.map (cv ρ)) ⟨hx, hb, hml, hown, hts⟩ hM (hl9.cw hts hdd) ⟨WRs_blind, hr2 ▸ va_recv hK hP hr1 hi2, fun V hV hW => ⟨rfl, WRs_call hK hD hA hZ hP hS hV hW⟩⟩ rfl rfl hl.1 rfl (lv_room (Nat.le_trans (st_cat st) hst)) hd ⟨hu, by show 64 * u + 64 * U2 ≤ 64 * U; omega⟩) hS (fun q _ h => hf9 q h) hf9 (fun q _ h => hf9 q h) (fun E ce q9 u9 t9 H1 locs1 ht hvm _ hB hz1 hk1 hS1 hce hv hcl => ?_) (fun v9 u9 t9 H1 locs1 ht hvm hw hB hz1 hk1 hS1 => ?_)
  · obtain ⟨hB0, hB1, hB2⟩ := hB
    refine vx_out (fun x hx => absurd (hE1 rfl x hx) id) hlk hce hv hcl (fun t' ht' hvm' => ⟨u9, trivial, ⟨hx2 E u9 hB0, ?_, va_K.moved hvm' hK⟩, hS1.F ht'⟩) hS1.2.2 hu (by show 64 * u + 64 * U2 ≤ 64 * U; omega)
    rw [ht', ← ht]
    exact hB1
  · obtain ⟨hw1, hw2⟩ := hw
    subst hw1
    have hP1 : va_P g vwCl (wsOf ρ cy Lall u9.2) H1 := by rw [← ht]; exact hB.1
    rw [show 64 * u + 64 * U2 = 64 * (u + U2) by omega]
    exact k u9.1 u9.2 hw2 H1 locs1 ls hP1 hS1 hl
theorem aw_callVV0 {Q2 : Hp → Prop} (F : Fx X K cc own ret d U tb) (hd : decode cc pc = .ok (.invokevirtual idx, 3)) (hl9 : MLV own idx y bc mL ry t 0) (hk : kd q = .inl t) (hm : inB q) (hc : CtV d2 0 y bc mL ry [aR q] σ Q2) (hst : stW st ≤ 8) (hdd : d2 + 1 ≤ d) (hu : u ≤ U) (k : ∀ (σ' : Hp), Q2 σ' → AW X K (pc + 3) lv st σ' u Q) : AW X K pc lv (aR q :: st) σ u Q := by
  obtain ⟨p, l, e, R, s, m, args, below, meth, c⟩ := X
  obtain ⟨g, cy, A, nL, ρ, L⟩ := K
  obtain ⟨hx, hb, hml, hown, hts, hK, hnd, hD, hA, hlk, hret, hR, htr, hZ, hE⟩ := F
  subst hR
  obtain ⟨hE1, rfl⟩ := hE
  intro H locs ls hP hS hl
  obtain ⟨⟨rr, hr1, hr2⟩, -⟩ := id hl9
  obtain ⟨i, hi, hi2⟩ := ws_at (ρ := ρ) (cy := cy) (σ := σ) (memL (by rw [hk]; intro z; cases z; exact absurd (vw_lt hr1) (by decide)) hm)
  rw [ent_obj hk] at hi2
  have hf9 : ∀ q, Aof ρ Lall H.size q → A q := fun q h => h.elim (fun ⟨i, hi, he⟩ => he ▸ wsA_D hD i hi) (fun h => hA q (Nat.le_trans hS.1 h))
  have hM := hc l g cy ρ H.size htr
  refine va_callv (va_runV (As := [].map (cv ρ)) (rest := st.map (cv ρ)) ⟨hx, hb, hml, hown, hts⟩ hM (hl9.cw hts hdd) ⟨WRs_blind, hr2 ▸ va_recv hK hP hr1 hi2, fun V hV hW => ⟨rfl, WRs_call hK hD hA hZ hP hS hV hW⟩⟩ rfl rfl hl.1 rfl (lv_room (Nat.le_trans (st_cat st) hst)) hd ⟨hu, by show 64 * u + 64 * 0 ≤ 64 * U; omega⟩) hS (fun q _ h => hf9 q h) hf9 (fun u9 t9 H1 locs1 ht hvm hw hB hz1 hk1 hS1 => ?_)
  have hP1 : va_P g vwCl (wsOf ρ cy Lall u9) H1 := by rw [← ht]; exact hB.1
  exact k u9 hw H1 locs1 ls hP1 hS1 hl
theorem aw_xcallVVI0 {Q2 : Hp → Prop} {QX2 QX : String → Hp → Prop} {Q9 : Int → Hp → Prop} (F : Fx X K cc own ret d U true) (hd : decode cc pc = .ok (.invokevirtual idx, 3)) (hl9 : MLV own idx y bc mL ry t 0) (hk : kd q = .inl t) (hm : inB q) (hc : CxV d2 U2 y bc mL ry [aR q] σ Q2 QX2) (hst : stW st ≤ 8) (hdd : d2 + 1 ≤ d) (hu : u + U2 ≤ U) (hx2 : ∀ (E : String) (σ' : Hp), QX2 E σ' → QX E σ') (k : ∀ (σ' : Hp), Q2 σ' → AW X K (pc + 3) lv st σ' (u + U2) (XI X K U Q9 QX)) : AW X K pc lv (aR q :: st) σ u (XI X K U Q9 QX) := by
  obtain ⟨p, l, e, R, s, m, args, below, meth, c⟩ := X
  obtain ⟨g, cy, A, nL, ρ, L⟩ := K
  obtain ⟨hx, hb, hml, hown, hts, hK, hnd, hD, hA, hlk, hret, hR, htr, hZ, hE⟩ := F
  subst hR
  obtain ⟨hE1, rfl⟩ := hE
  intro H locs ls hP hS hl
  obtain ⟨⟨rr, hr1, hr2⟩, -⟩ := id hl9
  obtain ⟨i, hi, hi2⟩ := ws_at (ρ := ρ) (cy := cy) (σ := σ) (memL (by rw [hk]; intro z; cases z; exact absurd (vw_lt hr1) (by decide)) hm)
  rw [ent_obj hk] at hi2
  have hf9 : ∀ q, Aof ρ Lall H.size q → A q := fun q h => h.elim (fun ⟨i, hi, he⟩ => he ▸ wsA_D hD i hi) (fun h => hA q (Nat.le_trans hS.1 h))
  have hM := hc l g cy ρ H.size htr
  refine vx_callv (vx_runV (As := [].map (cv ρ)) (rest := st.map (cv ρ)) ⟨hx, hb, hml, hown, hts⟩ hM (hl9.cw hts hdd) ⟨WRs_blind, hr2 ▸ va_recv hK hP hr1 hi2, fun V hV hW => ⟨rfl, WRs_call hK hD hA hZ hP hS hV hW⟩⟩ rfl rfl hl.1 rfl (lv_room (Nat.le_trans (st_cat st) hst)) hd ⟨hu, by show 64 * u + 64 * U2 ≤ 64 * U; omega⟩) hS (fun q _ h => hf9 q h) hf9 (fun q _ h => hf9 q h) (fun E ce q9 u9 t9 H1 locs1 ht hvm _ hB hz1 hk1 hS1 hce hv hcl => ?_) (fun u9 t9 H1 locs1 ht hvm hw hB hz1 hk1 hS1 => ?_)
  · obtain ⟨hB0, hB1, hB2⟩ := hB
    refine vx_out (fun x hx => absurd (hE1 rfl x hx) id) hlk hce hv hcl (fun t' ht' hvm' => ⟨u9, trivial, ⟨hx2 E u9 hB0, ?_, va_K.moved hvm' hK⟩, hS1.F ht'⟩) hS1.2.2 hu (by show 64 * u + 64 * U2 ≤ 64 * U; omega)
    rw [ht', ← ht]
    exact hB1
  · have hP1 : va_P g vwCl (wsOf ρ cy Lall u9) H1 := by rw [← ht]; exact hB.1
    rw [show 64 * u + 64 * U2 = 64 * (u + U2) by omega]
    exact k u9 hw H1 locs1 ls hP1 hS1 hl
theorem aw_xcallVVV0 {Q2 : Hp → Prop} {QX2 QX : String → Hp → Prop} {Q9 : Hp → Prop} (F : Fx X K cc own ret d U true) (hd : decode cc pc = .ok (.invokevirtual idx, 3)) (hl9 : MLV own idx y bc mL ry t 0) (hk : kd q = .inl t) (hm : inB q) (hc : CxV d2 U2 y bc mL ry [aR q] σ Q2 QX2) (hst : stW st ≤ 8) (hdd : d2 + 1 ≤ d) (hu : u + U2 ≤ U) (hx2 : ∀ (E : String) (σ' : Hp), QX2 E σ' → QX E σ') (k : ∀ (σ' : Hp), Q2 σ' → AW X K (pc + 3) lv st σ' (u + U2) (XV X K U Q9 QX)) : AW X K pc lv (aR q :: st) σ u (XV X K U Q9 QX) := by
  obtain ⟨p, l, e, R, s, m, args, below, meth, c⟩ := X
  obtain ⟨g, cy, A, nL, ρ, L⟩ := K
  obtain ⟨hx, hb, hml, hown, hts, hK, hnd, hD, hA, hlk, hret, hR, htr, hZ, hE⟩ := F
  subst hR
  obtain ⟨hE1, rfl⟩ := hE
  intro H locs ls hP hS hl
  obtain ⟨⟨rr, hr1, hr2⟩, -⟩ := id hl9
  obtain ⟨i, hi, hi2⟩ := ws_at (ρ := ρ) (cy := cy) (σ := σ) (memL (by rw [hk]; intro z; cases z; exact absurd (vw_lt hr1) (by decide)) hm)
  rw [ent_obj hk] at hi2
  have hf9 : ∀ q, Aof ρ Lall H.size q → A q := fun q h => h.elim (fun ⟨i, hi, he⟩ => he ▸ wsA_D hD i hi) (fun h => hA q (Nat.le_trans hS.1 h))
  have hM := hc l g cy ρ H.size htr
  refine vx_callv (vx_runV (As := [].map (cv ρ)) (rest := st.map (cv ρ)) ⟨hx, hb, hml, hown, hts⟩ hM (hl9.cw hts hdd) ⟨WRs_blind, hr2 ▸ va_recv hK hP hr1 hi2, fun V hV hW => ⟨rfl, WRs_call hK hD hA hZ hP hS hV hW⟩⟩ rfl rfl hl.1 rfl (lv_room (Nat.le_trans (st_cat st) hst)) hd ⟨hu, by show 64 * u + 64 * U2 ≤ 64 * U; omega⟩) hS (fun q _ h => hf9 q h) hf9 (fun q _ h => hf9 q h) (fun E ce q9 u9 t9 H1 locs1 ht hvm _ hB hz1 hk1 hS1 hce hv hcl => ?_) (fun u9 t9 H1 locs1 ht hvm hw hB hz1 hk1 hS1 => ?_)
  · obtain ⟨hB0, hB1, hB2⟩ := hB
    refine vx_out (fun x hx => absurd (hE1 rfl x hx) id) hlk hce hv hcl (fun t' ht' hvm' => ⟨u9, trivial, ⟨hx2 E u9 hB0, ?_, va_K.moved hvm' hK⟩, hS1.F ht'⟩) hS1.2.2 hu (by show 64 * u + 64 * U2 ≤ 64 * U; omega)
    rw [ht', ← ht]
    exact hB1
  · have hP1 : va_P g vwCl (wsOf ρ cy Lall u9) H1 := by rw [← ht]; exact hB.1
    rw [show 64 * u + 64 * U2 = 64 * (u + U2) by omega]
    exact k u9 hw H1 locs1 ls hP1 hS1 hl
theorem aw_callVI1 {za : AV} {Q2 : Int → Hp → Prop} (F : Fx X K cc own ret d U tb) (hd : decode cc pc = .ok (.invokevirtual idx, 3)) (hl9 : MLV own idx y bc mL ry t 1) (hk : kd q = .inl t) (hm : inB q) (hc : CtI d2 0 y bc mL ry [aR q, za] σ Q2) (hst : stW st ≤ 8) (hdd : d2 + 1 ≤ d) (hu : u ≤ U) (k : ∀ (v : Int) (σ' : Hp), Q2 v σ' → AW X K (pc + 3) lv (aI v :: st) σ' u Q) : AW X K pc lv (za :: aR q :: st) σ u Q := by
  obtain ⟨p, l, e, R, s, m, args, below, meth, c⟩ := X
  obtain ⟨g, cy, A, nL, ρ, L⟩ := K
  obtain ⟨hx, hb, hml, hown, hts, hK, hnd, hD, hA, hlk, hret, hR, htr, hZ, hE⟩ := F
  subst hR
  obtain ⟨hE1, rfl⟩ := hE
  intro H locs ls hP hS hl
  obtain ⟨⟨rr, hr1, hr2⟩, -⟩ := id hl9
  obtain ⟨i, hi, hi2⟩ := ws_at (ρ := ρ) (cy := cy) (σ := σ) (memL (by rw [hk]; intro z; cases z; exact absurd (vw_lt hr1) (by decide)) hm)
  rw [ent_obj hk] at hi2
  have hf9 : ∀ q, Aof ρ Lall H.size q → A q := fun q h => h.elim (fun ⟨i, hi, he⟩ => he ▸ wsA_D hD i hi) (fun h => hA q (Nat.le_trans hS.1 h))
  have hM := hc l g cy ρ H.size htr
  refine va_calli (va_runV (As := [za].map (cv ρ)) (rest := st.map (cv ρ)) ⟨hx, hb, hml, hown, hts⟩ hM (hl9.cw hts hdd) ⟨WRs_blind, hr2 ▸ va_recv hK hP hr1 hi2, fun V hV hW => ⟨rfl, WRs_call hK hD hA hZ hP hS hV hW⟩⟩ rfl rfl hl.1 rfl (lv_room (Nat.le_trans (st_cat st) hst)) hd ⟨hu, by show 64 * u + 64 * 0 ≤ 64 * U; omega⟩) hS (fun q _ h => hf9 q h) hf9 (fun v9 u9 t9 H1 locs1 ht hvm hw hB hz1 hk1 hS1 => ?_)
  obtain ⟨hw1, hw2⟩ := hw
  subst hw1
  have hP1 : va_P g vwCl (wsOf ρ cy Lall u9.2) H1 := by rw [← ht]; exact hB.1
  exact k u9.1 u9.2 hw2 H1 locs1 ls hP1 hS1 hl
theorem aw_pcallV1 {za : AV} {e9 : Int} (F : Fx X K cc own ret d U tb) (hd : decode cc pc = .ok (.invokevirtual idx, 3)) (hl9 : MLV own idx y bc mL ry t 1) (hk : kd q = .inl t) (hm : inB q) (hc : CtI d2 0 y bc mL ry [aR q, za] σ (PU σ e9)) (hst : stW st ≤ 8) (hdd : d2 + 1 ≤ d) (hu : u ≤ U) (k : AW X K (pc + 3) lv (aI e9 :: st) σ u Q) : AW X K pc lv (za :: aR q :: st) σ u Q :=
  aw_callVI1 F hd hl9 hk hm hc hst hdd hu (fun v9 s9 h => by obtain ⟨rfl, rfl⟩ := h; exact k)
theorem aw_xcallVII1 {za : AV} {Q2 : Int → Hp → Prop} {QX2 QX : String → Hp → Prop} {Q9 : Int → Hp → Prop} (F : Fx X K cc own ret d U true) (hd : decode cc pc = .ok (.invokevirtual idx, 3)) (hl9 : MLV own idx y bc mL ry t 1) (hk : kd q = .inl t) (hm : inB q) (hc : CxI d2 U2 y bc mL ry [aR q, za] σ Q2 QX2) (hst : stW st ≤ 8) (hdd : d2 + 1 ≤ d) (hu : u + U2 ≤ U) (hx2 : ∀ (E : String) (σ' : Hp), QX2 E σ' → QX E σ') (k : ∀ (v : Int) (σ' : Hp), Q2 v σ' → AW X K (pc + 3) lv (aI v :: st) σ' (u + U2) (XI X K U Q9 QX)) : AW X K pc lv (za :: aR q :: st) σ u (XI X K U Q9 QX) := by
  obtain ⟨p, l, e, R, s, m, args, below, meth, c⟩ := X
  obtain ⟨g, cy, A, nL, ρ, L⟩ := K
  obtain ⟨hx, hb, hml, hown, hts, hK, hnd, hD, hA, hlk, hret, hR, htr, hZ, hE⟩ := F
  subst hR
  obtain ⟨hE1, rfl⟩ := hE
  intro H locs ls hP hS hl
  obtain ⟨⟨rr, hr1, hr2⟩, -⟩ := id hl9
  obtain ⟨i, hi, hi2⟩ := ws_at (ρ := ρ) (cy := cy) (σ := σ) (memL (by rw [hk]; intro z; cases z; exact absurd (vw_lt hr1) (by decide)) hm)
  rw [ent_obj hk] at hi2
  have hf9 : ∀ q, Aof ρ Lall H.size q → A q := fun q h => h.elim (fun ⟨i, hi, he⟩ => he ▸ wsA_D hD i hi) (fun h => hA q (Nat.le_trans hS.1 h))
  have hM := hc l g cy ρ H.size htr
  refine vx_calli (vx_runV (As := [za].map (cv ρ)) (rest := st.map (cv ρ)) ⟨hx, hb, hml, hown, hts⟩ hM (hl9.cw hts hdd) ⟨WRs_blind, hr2 ▸ va_recv hK hP hr1 hi2, fun V hV hW => ⟨rfl, WRs_call hK hD hA hZ hP hS hV hW⟩⟩ rfl rfl hl.1 rfl (lv_room (Nat.le_trans (st_cat st) hst)) hd ⟨hu, by show 64 * u + 64 * U2 ≤ 64 * U; omega⟩) hS (fun q _ h => hf9 q h) hf9 (fun q _ h => hf9 q h) (fun E ce q9 u9 t9 H1 locs1 ht hvm _ hB hz1 hk1 hS1 hce hv hcl => ?_) (fun v9 u9 t9 H1 locs1 ht hvm hw hB hz1 hk1 hS1 => ?_)
  · obtain ⟨hB0, hB1, hB2⟩ := hB
    refine vx_out (fun x hx => absurd (hE1 rfl x hx) id) hlk hce hv hcl (fun t' ht' hvm' => ⟨u9, trivial, ⟨hx2 E u9 hB0, ?_, va_K.moved hvm' hK⟩, hS1.F ht'⟩) hS1.2.2 hu (by show 64 * u + 64 * U2 ≤ 64 * U; omega)
    rw [ht', ← ht]
    exact hB1
  · obtain ⟨hw1, hw2⟩ := hw
    subst hw1
    have hP1 : va_P g vwCl (wsOf ρ cy Lall u9.2) H1 := by rw [← ht]; exact hB.1
    rw [show 64 * u + 64 * U2 = 64 * (u + U2) by omega]
    exact k u9.1 u9.2 hw2 H1 locs1 ls hP1 hS1 hl
theorem aw_xcallVIV1 {za : AV} {Q2 : Int → Hp → Prop} {QX2 QX : String → Hp → Prop} {Q9 : Hp → Prop} (F : Fx X K cc own ret d U true) (hd : decode cc pc = .ok (.invokevirtual idx, 3)) (hl9 : MLV own idx y bc mL ry t 1) (hk : kd q = .inl t) (hm : inB q) (hc : CxI d2 U2 y bc mL ry [aR q, za] σ Q2 QX2) (hst : stW st ≤ 8) (hdd : d2 + 1 ≤ d) (hu : u + U2 ≤ U) (hx2 : ∀ (E : String) (σ' : Hp), QX2 E σ' → QX E σ') (k : ∀ (v : Int) (σ' : Hp), Q2 v σ' → AW X K (pc + 3) lv (aI v :: st) σ' (u + U2) (XV X K U Q9 QX)) : AW X K pc lv (za :: aR q :: st) σ u (XV X K U Q9 QX) := by
  obtain ⟨p, l, e, R, s, m, args, below, meth, c⟩ := X
  obtain ⟨g, cy, A, nL, ρ, L⟩ := K
  obtain ⟨hx, hb, hml, hown, hts, hK, hnd, hD, hA, hlk, hret, hR, htr, hZ, hE⟩ := F
  subst hR
  obtain ⟨hE1, rfl⟩ := hE
  intro H locs ls hP hS hl
  obtain ⟨⟨rr, hr1, hr2⟩, -⟩ := id hl9
  obtain ⟨i, hi, hi2⟩ := ws_at (ρ := ρ) (cy := cy) (σ := σ) (memL (by rw [hk]; intro z; cases z; exact absurd (vw_lt hr1) (by decide)) hm)
  rw [ent_obj hk] at hi2
  have hf9 : ∀ q, Aof ρ Lall H.size q → A q := fun q h => h.elim (fun ⟨i, hi, he⟩ => he ▸ wsA_D hD i hi) (fun h => hA q (Nat.le_trans hS.1 h))
  have hM := hc l g cy ρ H.size htr
  refine vx_calli (vx_runV (As := [za].map (cv ρ)) (rest := st.map (cv ρ)) ⟨hx, hb, hml, hown, hts⟩ hM (hl9.cw hts hdd) ⟨WRs_blind, hr2 ▸ va_recv hK hP hr1 hi2, fun V hV hW => ⟨rfl, WRs_call hK hD hA hZ hP hS hV hW⟩⟩ rfl rfl hl.1 rfl (lv_room (Nat.le_trans (st_cat st) hst)) hd ⟨hu, by show 64 * u + 64 * U2 ≤ 64 * U; omega⟩) hS (fun q _ h => hf9 q h) hf9 (fun q _ h => hf9 q h) (fun E ce q9 u9 t9 H1 locs1 ht hvm _ hB hz1 hk1 hS1 hce hv hcl => ?_) (fun v9 u9 t9 H1 locs1 ht hvm hw hB hz1 hk1 hS1 => ?_)
  · obtain ⟨hB0, hB1, hB2⟩ := hB
    refine vx_out (fun x hx => absurd (hE1 rfl x hx) id) hlk hce hv hcl (fun t' ht' hvm' => ⟨u9, trivial, ⟨hx2 E u9 hB0, ?_, va_K.moved hvm' hK⟩, hS1.F ht'⟩) hS1.2.2 hu (by show 64 * u + 64 * U2 ≤ 64 * U; omega)
    rw [ht', ← ht]
    exact hB1
  · obtain ⟨hw1, hw2⟩ := hw
    subst hw1
    have hP1 : va_P g vwCl (wsOf ρ cy Lall u9.2) H1 := by rw [← ht]; exact hB.1
    rw [show 64 * u + 64 * U2 = 64 * (u + U2) by omega]
    exact k u9.1 u9.2 hw2 H1 locs1 ls hP1 hS1 hl
theorem aw_callVV1 {za : AV} {Q2 : Hp → Prop} (F : Fx X K cc own ret d U tb) (hd : decode cc pc = .ok (.invokevirtual idx, 3)) (hl9 : MLV own idx y bc mL ry t 1) (hk : kd q = .inl t) (hm : inB q) (hc : CtV d2 0 y bc mL ry [aR q, za] σ Q2) (hst : stW st ≤ 8) (hdd : d2 + 1 ≤ d) (hu : u ≤ U) (k : ∀ (σ' : Hp), Q2 σ' → AW X K (pc + 3) lv st σ' u Q) : AW X K pc lv (za :: aR q :: st) σ u Q := by
  obtain ⟨p, l, e, R, s, m, args, below, meth, c⟩ := X
  obtain ⟨g, cy, A, nL, ρ, L⟩ := K
  obtain ⟨hx, hb, hml, hown, hts, hK, hnd, hD, hA, hlk, hret, hR, htr, hZ, hE⟩ := F
  subst hR
  obtain ⟨hE1, rfl⟩ := hE
  intro H locs ls hP hS hl
  obtain ⟨⟨rr, hr1, hr2⟩, -⟩ := id hl9
  obtain ⟨i, hi, hi2⟩ := ws_at (ρ := ρ) (cy := cy) (σ := σ) (memL (by rw [hk]; intro z; cases z; exact absurd (vw_lt hr1) (by decide)) hm)
  rw [ent_obj hk] at hi2
  have hf9 : ∀ q, Aof ρ Lall H.size q → A q := fun q h => h.elim (fun ⟨i, hi, he⟩ => he ▸ wsA_D hD i hi) (fun h => hA q (Nat.le_trans hS.1 h))
  have hM := hc l g cy ρ H.size htr
  refine va_callv (va_runV (As := [za].map (cv ρ)) (rest := st.map (cv ρ)) ⟨hx, hb, hml, hown, hts⟩ hM (hl9.cw hts hdd) ⟨WRs_blind, hr2 ▸ va_recv hK hP hr1 hi2, fun V hV hW => ⟨rfl, WRs_call hK hD hA hZ hP hS hV hW⟩⟩ rfl rfl hl.1 rfl (lv_room (Nat.le_trans (st_cat st) hst)) hd ⟨hu, by show 64 * u + 64 * 0 ≤ 64 * U; omega⟩) hS (fun q _ h => hf9 q h) hf9 (fun u9 t9 H1 locs1 ht hvm hw hB hz1 hk1 hS1 => ?_)
  have hP1 : va_P g vwCl (wsOf ρ cy Lall u9) H1 := by rw [← ht]; exact hB.1
  exact k u9 hw H1 locs1 ls hP1 hS1 hl
theorem aw_xcallVVI1 {za : AV} {Q2 : Hp → Prop} {QX2 QX : String → Hp → Prop} {Q9 : Int → Hp → Prop} (F : Fx X K cc own ret d U true) (hd : decode cc pc = .ok (.invokevirtual idx, 3)) (hl9 : MLV own idx y bc mL ry t 1) (hk : kd q = .inl t) (hm : inB q) (hc : CxV d2 U2 y bc mL ry [aR q, za] σ Q2 QX2) (hst : stW st ≤ 8) (hdd : d2 + 1 ≤ d) (hu : u + U2 ≤ U) (hx2 : ∀ (E : String) (σ' : Hp), QX2 E σ' → QX E σ') (k : ∀ (σ' : Hp), Q2 σ' → AW X K (pc + 3) lv st σ' (u + U2) (XI X K U Q9 QX)) : AW X K pc lv (za :: aR q :: st) σ u (XI X K U Q9 QX) := by
  obtain ⟨p, l, e, R, s, m, args, below, meth, c⟩ := X
  obtain ⟨g, cy, A, nL, ρ, L⟩ := K
  obtain ⟨hx, hb, hml, hown, hts, hK, hnd, hD, hA, hlk, hret, hR, htr, hZ, hE⟩ := F
  subst hR
  obtain ⟨hE1, rfl⟩ := hE
  intro H locs ls hP hS hl
  obtain ⟨⟨rr, hr1, hr2⟩, -⟩ := id hl9
  obtain ⟨i, hi, hi2⟩ := ws_at (ρ := ρ) (cy := cy) (σ := σ) (memL (by rw [hk]; intro z; cases z; exact absurd (vw_lt hr1) (by decide)) hm)
  rw [ent_obj hk] at hi2
  have hf9 : ∀ q, Aof ρ Lall H.size q → A q := fun q h => h.elim (fun ⟨i, hi, he⟩ => he ▸ wsA_D hD i hi) (fun h => hA q (Nat.le_trans hS.1 h))
  have hM := hc l g cy ρ H.size htr
  refine vx_callv (vx_runV (As := [za].map (cv ρ)) (rest := st.map (cv ρ)) ⟨hx, hb, hml, hown, hts⟩ hM (hl9.cw hts hdd) ⟨WRs_blind, hr2 ▸ va_recv hK hP hr1 hi2, fun V hV hW => ⟨rfl, WRs_call hK hD hA hZ hP hS hV hW⟩⟩ rfl rfl hl.1 rfl (lv_room (Nat.le_trans (st_cat st) hst)) hd ⟨hu, by show 64 * u + 64 * U2 ≤ 64 * U; omega⟩) hS (fun q _ h => hf9 q h) hf9 (fun q _ h => hf9 q h) (fun E ce q9 u9 t9 H1 locs1 ht hvm _ hB hz1 hk1 hS1 hce hv hcl => ?_) (fun u9 t9 H1 locs1 ht hvm hw hB hz1 hk1 hS1 => ?_)
  · obtain ⟨hB0, hB1, hB2⟩ := hB
    refine vx_out (fun x hx => absurd (hE1 rfl x hx) id) hlk hce hv hcl (fun t' ht' hvm' => ⟨u9, trivial, ⟨hx2 E u9 hB0, ?_, va_K.moved hvm' hK⟩, hS1.F ht'⟩) hS1.2.2 hu (by show 64 * u + 64 * U2 ≤ 64 * U; omega)
    rw [ht', ← ht]
    exact hB1
  · have hP1 : va_P g vwCl (wsOf ρ cy Lall u9) H1 := by rw [← ht]; exact hB.1
    rw [show 64 * u + 64 * U2 = 64 * (u + U2) by omega]
    exact k u9 hw H1 locs1 ls hP1 hS1 hl
theorem aw_xcallVVV1 {za : AV} {Q2 : Hp → Prop} {QX2 QX : String → Hp → Prop} {Q9 : Hp → Prop} (F : Fx X K cc own ret d U true) (hd : decode cc pc = .ok (.invokevirtual idx, 3)) (hl9 : MLV own idx y bc mL ry t 1) (hk : kd q = .inl t) (hm : inB q) (hc : CxV d2 U2 y bc mL ry [aR q, za] σ Q2 QX2) (hst : stW st ≤ 8) (hdd : d2 + 1 ≤ d) (hu : u + U2 ≤ U) (hx2 : ∀ (E : String) (σ' : Hp), QX2 E σ' → QX E σ') (k : ∀ (σ' : Hp), Q2 σ' → AW X K (pc + 3) lv st σ' (u + U2) (XV X K U Q9 QX)) : AW X K pc lv (za :: aR q :: st) σ u (XV X K U Q9 QX) := by
  obtain ⟨p, l, e, R, s, m, args, below, meth, c⟩ := X
  obtain ⟨g, cy, A, nL, ρ, L⟩ := K
  obtain ⟨hx, hb, hml, hown, hts, hK, hnd, hD, hA, hlk, hret, hR, htr, hZ, hE⟩ := F
  subst hR
  obtain ⟨hE1, rfl⟩ := hE
  intro H locs ls hP hS hl
  obtain ⟨⟨rr, hr1, hr2⟩, -⟩ := id hl9
  obtain ⟨i, hi, hi2⟩ := ws_at (ρ := ρ) (cy := cy) (σ := σ) (memL (by rw [hk]; intro z; cases z; exact absurd (vw_lt hr1) (by decide)) hm)
  rw [ent_obj hk] at hi2
  have hf9 : ∀ q, Aof ρ Lall H.size q → A q := fun q h => h.elim (fun ⟨i, hi, he⟩ => he ▸ wsA_D hD i hi) (fun h => hA q (Nat.le_trans hS.1 h))
  have hM := hc l g cy ρ H.size htr
  refine vx_callv (vx_runV (As := [za].map (cv ρ)) (rest := st.map (cv ρ)) ⟨hx, hb, hml, hown, hts⟩ hM (hl9.cw hts hdd) ⟨WRs_blind, hr2 ▸ va_recv hK hP hr1 hi2, fun V hV hW => ⟨rfl, WRs_call hK hD hA hZ hP hS hV hW⟩⟩ rfl rfl hl.1 rfl (lv_room (Nat.le_trans (st_cat st) hst)) hd ⟨hu, by show 64 * u + 64 * U2 ≤ 64 * U; omega⟩) hS (fun q _ h => hf9 q h) hf9 (fun q _ h => hf9 q h) (fun E ce q9 u9 t9 H1 locs1 ht hvm _ hB hz1 hk1 hS1 hce hv hcl => ?_) (fun u9 t9 H1 locs1 ht hvm hw hB hz1 hk1 hS1 => ?_)
  · obtain ⟨hB0, hB1, hB2⟩ := hB
    refine vx_out (fun x hx => absurd (hE1 rfl x hx) id) hlk hce hv hcl (fun t' ht' hvm' => ⟨u9, trivial, ⟨hx2 E u9 hB0, ?_, va_K.moved hvm' hK⟩, hS1.F ht'⟩) hS1.2.2 hu (by show 64 * u + 64 * U2 ≤ 64 * U; omega)
    rw [ht', ← ht]
    exact hB1
  · have hP1 : va_P g vwCl (wsOf ρ cy Lall u9) H1 := by rw [← ht]; exact hB.1
    rw [show 64 * u + 64 * U2 = 64 * (u + U2) by omega]
    exact k u9 hw H1 locs1 ls hP1 hS1 hl
theorem aw_callVI2 {za zb : AV} {Q2 : Int → Hp → Prop} (F : Fx X K cc own ret d U tb) (hd : decode cc pc = .ok (.invokevirtual idx, 3)) (hl9 : MLV own idx y bc mL ry t 2) (hk : kd q = .inl t) (hm : inB q) (hc : CtI d2 0 y bc mL ry [aR q, za, zb] σ Q2) (hst : stW st ≤ 8) (hdd : d2 + 1 ≤ d) (hu : u ≤ U) (k : ∀ (v : Int) (σ' : Hp), Q2 v σ' → AW X K (pc + 3) lv (aI v :: st) σ' u Q) : AW X K pc lv (zb :: za :: aR q :: st) σ u Q := by
  obtain ⟨p, l, e, R, s, m, args, below, meth, c⟩ := X
  obtain ⟨g, cy, A, nL, ρ, L⟩ := K
  obtain ⟨hx, hb, hml, hown, hts, hK, hnd, hD, hA, hlk, hret, hR, htr, hZ, hE⟩ := F
  subst hR
  obtain ⟨hE1, rfl⟩ := hE
  intro H locs ls hP hS hl
  obtain ⟨⟨rr, hr1, hr2⟩, -⟩ := id hl9
  obtain ⟨i, hi, hi2⟩ := ws_at (ρ := ρ) (cy := cy) (σ := σ) (memL (by rw [hk]; intro z; cases z; exact absurd (vw_lt hr1) (by decide)) hm)
  rw [ent_obj hk] at hi2
  have hf9 : ∀ q, Aof ρ Lall H.size q → A q := fun q h => h.elim (fun ⟨i, hi, he⟩ => he ▸ wsA_D hD i hi) (fun h => hA q (Nat.le_trans hS.1 h))
  have hM := hc l g cy ρ H.size htr
  refine va_calli (va_runV (As := [za, zb].map (cv ρ)) (rest := st.map (cv ρ)) ⟨hx, hb, hml, hown, hts⟩ hM (hl9.cw hts hdd) ⟨WRs_blind, hr2 ▸ va_recv hK hP hr1 hi2, fun V hV hW => ⟨rfl, WRs_call hK hD hA hZ hP hS hV hW⟩⟩ rfl rfl hl.1 rfl (lv_room (Nat.le_trans (st_cat st) hst)) hd ⟨hu, by show 64 * u + 64 * 0 ≤ 64 * U; omega⟩) hS (fun q _ h => hf9 q h) hf9 (fun v9 u9 t9 H1 locs1 ht hvm hw hB hz1 hk1 hS1 => ?_)
  obtain ⟨hw1, hw2⟩ := hw
  subst hw1
  have hP1 : va_P g vwCl (wsOf ρ cy Lall u9.2) H1 := by rw [← ht]; exact hB.1
  exact k u9.1 u9.2 hw2 H1 locs1 ls hP1 hS1 hl
theorem aw_pcallV2 {za zb : AV} {e9 : Int} (F : Fx X K cc own ret d U tb) (hd : decode cc pc = .ok (.invokevirtual idx, 3)) (hl9 : MLV own idx y bc mL ry t 2) (hk : kd q = .inl t) (hm : inB q) (hc : CtI d2 0 y bc mL ry [aR q, za, zb] σ (PU σ e9)) (hst : stW st ≤ 8) (hdd : d2 + 1 ≤ d) (hu : u ≤ U) (k : AW X K (pc + 3) lv (aI e9 :: st) σ u Q) : AW X K pc lv (zb :: za :: aR q :: st) σ u Q :=
  aw_callVI2 F hd hl9 hk hm hc hst hdd hu (fun v9 s9 h => by obtain ⟨rfl, rfl⟩ := h; exact k)
theorem aw_xcallVII2 {za zb : AV} {Q2 : Int → Hp → Prop} {QX2 QX : String → Hp → Prop} {Q9 : Int → Hp → Prop} (F : Fx X K cc own ret d U true) (hd : decode cc pc = .ok (.invokevirtual idx, 3)) (hl9 : MLV own idx y bc mL ry t 2) (hk : kd q = .inl t) (hm : inB q) (hc : CxI d2 U2 y bc mL ry [aR q, za, zb] σ Q2 QX2) (hst : stW st ≤ 8) (hdd : d2 + 1 ≤ d) (hu : u + U2 ≤ U) (hx2 : ∀ (E : String) (σ' : Hp), QX2 E σ' → QX E σ') (k : ∀ (v : Int) (σ' : Hp), Q2 v σ' → AW X K (pc + 3) lv (aI v :: st) σ' (u + U2) (XI X K U Q9 QX)) : AW X K pc lv (zb :: za :: aR q :: st) σ u (XI X K U Q9 QX) := by
  obtain ⟨p, l, e, R, s, m, args, below, meth, c⟩ := X
  obtain ⟨g, cy, A, nL, ρ, L⟩ := K
  obtain ⟨hx, hb, hml, hown, hts, hK, hnd, hD, hA, hlk, hret, hR, htr, hZ, hE⟩ := F
  subst hR
  obtain ⟨hE1, rfl⟩ := hE
  intro H locs ls hP hS hl
  obtain ⟨⟨rr, hr1, hr2⟩, -⟩ := id hl9
  obtain ⟨i, hi, hi2⟩ := ws_at (ρ := ρ) (cy := cy) (σ := σ) (memL (by rw [hk]; intro z; cases z; exact absurd (vw_lt hr1) (by decide)) hm)
  rw [ent_obj hk] at hi2
  have hf9 : ∀ q, Aof ρ Lall H.size q → A q := fun q h => h.elim (fun ⟨i, hi, he⟩ => he ▸ wsA_D hD i hi) (fun h => hA q (Nat.le_trans hS.1 h))
  have hM := hc l g cy ρ H.size htr
  refine vx_calli (vx_runV (As := [za, zb].map (cv ρ)) (rest := st.map (cv ρ)) ⟨hx, hb, hml, hown, hts⟩ hM (hl9.cw hts hdd) ⟨WRs_blind, hr2 ▸ va_recv hK hP hr1 hi2, fun V hV hW => ⟨rfl, WRs_call hK hD hA hZ hP hS hV hW⟩⟩ rfl rfl hl.1 rfl (lv_room (Nat.le_trans (st_cat st) hst)) hd ⟨hu, by show 64 * u + 64 * U2 ≤ 64 * U; omega⟩) hS (fun q _ h => hf9 q h) hf9 (fun q _ h => hf9 q h) (fun E ce q9 u9 t9 H1 locs1 ht hvm _ hB hz1 hk1 hS1 hce hv hcl => ?_) (fun v9 u9 t9 H1 locs1 ht hvm hw hB hz1 hk1 hS1 => ?_)
  · obtain ⟨hB0, hB1, hB2⟩ := hB
    refine vx_out (fun x hx => absurd (hE1 rfl x hx) id) hlk hce hv hcl (fun t' ht' hvm' => ⟨u9, trivial, ⟨hx2 E u9 hB0, ?_, va_K.moved hvm' hK⟩, hS1.F ht'⟩) hS1.2.2 hu (by show 64 * u + 64 * U2 ≤ 64 * U; omega)
    rw [ht', ← ht]
    exact hB1
  · obtain ⟨hw1, hw2⟩ := hw
    subst hw1
    have hP1 : va_P g vwCl (wsOf ρ cy Lall u9.2) H1 := by rw [← ht]; exact hB.1
    rw [show 64 * u + 64 * U2 = 64 * (u + U2) by omega]
    exact k u9.1 u9.2 hw2 H1 locs1 ls hP1 hS1 hl
theorem aw_xcallVIV2 {za zb : AV} {Q2 : Int → Hp → Prop} {QX2 QX : String → Hp → Prop} {Q9 : Hp → Prop} (F : Fx X K cc own ret d U true) (hd : decode cc pc = .ok (.invokevirtual idx, 3)) (hl9 : MLV own idx y bc mL ry t 2) (hk : kd q = .inl t) (hm : inB q) (hc : CxI d2 U2 y bc mL ry [aR q, za, zb] σ Q2 QX2) (hst : stW st ≤ 8) (hdd : d2 + 1 ≤ d) (hu : u + U2 ≤ U) (hx2 : ∀ (E : String) (σ' : Hp), QX2 E σ' → QX E σ') (k : ∀ (v : Int) (σ' : Hp), Q2 v σ' → AW X K (pc + 3) lv (aI v :: st) σ' (u + U2) (XV X K U Q9 QX)) : AW X K pc lv (zb :: za :: aR q :: st) σ u (XV X K U Q9 QX) := by
  obtain ⟨p, l, e, R, s, m, args, below, meth, c⟩ := X
  obtain ⟨g, cy, A, nL, ρ, L⟩ := K
  obtain ⟨hx, hb, hml, hown, hts, hK, hnd, hD, hA, hlk, hret, hR, htr, hZ, hE⟩ := F
  subst hR
  obtain ⟨hE1, rfl⟩ := hE
  intro H locs ls hP hS hl
  obtain ⟨⟨rr, hr1, hr2⟩, -⟩ := id hl9
  obtain ⟨i, hi, hi2⟩ := ws_at (ρ := ρ) (cy := cy) (σ := σ) (memL (by rw [hk]; intro z; cases z; exact absurd (vw_lt hr1) (by decide)) hm)
  rw [ent_obj hk] at hi2
  have hf9 : ∀ q, Aof ρ Lall H.size q → A q := fun q h => h.elim (fun ⟨i, hi, he⟩ => he ▸ wsA_D hD i hi) (fun h => hA q (Nat.le_trans hS.1 h))
  have hM := hc l g cy ρ H.size htr
  refine vx_calli (vx_runV (As := [za, zb].map (cv ρ)) (rest := st.map (cv ρ)) ⟨hx, hb, hml, hown, hts⟩ hM (hl9.cw hts hdd) ⟨WRs_blind, hr2 ▸ va_recv hK hP hr1 hi2, fun V hV hW => ⟨rfl, WRs_call hK hD hA hZ hP hS hV hW⟩⟩ rfl rfl hl.1 rfl (lv_room (Nat.le_trans (st_cat st) hst)) hd ⟨hu, by show 64 * u + 64 * U2 ≤ 64 * U; omega⟩) hS (fun q _ h => hf9 q h) hf9 (fun q _ h => hf9 q h) (fun E ce q9 u9 t9 H1 locs1 ht hvm _ hB hz1 hk1 hS1 hce hv hcl => ?_) (fun v9 u9 t9 H1 locs1 ht hvm hw hB hz1 hk1 hS1 => ?_)
  · obtain ⟨hB0, hB1, hB2⟩ := hB
    refine vx_out (fun x hx => absurd (hE1 rfl x hx) id) hlk hce hv hcl (fun t' ht' hvm' => ⟨u9, trivial, ⟨hx2 E u9 hB0, ?_, va_K.moved hvm' hK⟩, hS1.F ht'⟩) hS1.2.2 hu (by show 64 * u + 64 * U2 ≤ 64 * U; omega)
    rw [ht', ← ht]
    exact hB1
  · obtain ⟨hw1, hw2⟩ := hw
    subst hw1
    have hP1 : va_P g vwCl (wsOf ρ cy Lall u9.2) H1 := by rw [← ht]; exact hB.1
    rw [show 64 * u + 64 * U2 = 64 * (u + U2) by omega]
    exact k u9.1 u9.2 hw2 H1 locs1 ls hP1 hS1 hl
theorem aw_callVV2 {za zb : AV} {Q2 : Hp → Prop} (F : Fx X K cc own ret d U tb) (hd : decode cc pc = .ok (.invokevirtual idx, 3)) (hl9 : MLV own idx y bc mL ry t 2) (hk : kd q = .inl t) (hm : inB q) (hc : CtV d2 0 y bc mL ry [aR q, za, zb] σ Q2) (hst : stW st ≤ 8) (hdd : d2 + 1 ≤ d) (hu : u ≤ U) (k : ∀ (σ' : Hp), Q2 σ' → AW X K (pc + 3) lv st σ' u Q) : AW X K pc lv (zb :: za :: aR q :: st) σ u Q := by
  obtain ⟨p, l, e, R, s, m, args, below, meth, c⟩ := X
  obtain ⟨g, cy, A, nL, ρ, L⟩ := K
  obtain ⟨hx, hb, hml, hown, hts, hK, hnd, hD, hA, hlk, hret, hR, htr, hZ, hE⟩ := F
  subst hR
  obtain ⟨hE1, rfl⟩ := hE
  intro H locs ls hP hS hl
  obtain ⟨⟨rr, hr1, hr2⟩, -⟩ := id hl9
  obtain ⟨i, hi, hi2⟩ := ws_at (ρ := ρ) (cy := cy) (σ := σ) (memL (by rw [hk]; intro z; cases z; exact absurd (vw_lt hr1) (by decide)) hm)
  rw [ent_obj hk] at hi2
  have hf9 : ∀ q, Aof ρ Lall H.size q → A q := fun q h => h.elim (fun ⟨i, hi, he⟩ => he ▸ wsA_D hD i hi) (fun h => hA q (Nat.le_trans hS.1 h))
  have hM := hc l g cy ρ H.size htr
  refine va_callv (va_runV (As := [za, zb].map (cv ρ)) (rest := st.map (cv ρ)) ⟨hx, hb, hml, hown, hts⟩ hM (hl9.cw hts hdd) ⟨WRs_blind, hr2 ▸ va_recv hK hP hr1 hi2, fun V hV hW => ⟨rfl, WRs_call hK hD hA hZ hP hS hV hW⟩⟩ rfl rfl hl.1 rfl (lv_room (Nat.le_trans (st_cat st) hst)) hd ⟨hu, by show 64 * u + 64 * 0 ≤ 64 * U; omega⟩) hS (fun q _ h => hf9 q h) hf9 (fun u9 t9 H1 locs1 ht hvm hw hB hz1 hk1 hS1 => ?_)
  have hP1 : va_P g vwCl (wsOf ρ cy Lall u9) H1 := by rw [← ht]; exact hB.1
  exact k u9 hw H1 locs1 ls hP1 hS1 hl
theorem aw_xcallVVI2 {za zb : AV} {Q2 : Hp → Prop} {QX2 QX : String → Hp → Prop} {Q9 : Int → Hp → Prop} (F : Fx X K cc own ret d U true) (hd : decode cc pc = .ok (.invokevirtual idx, 3)) (hl9 : MLV own idx y bc mL ry t 2) (hk : kd q = .inl t) (hm : inB q) (hc : CxV d2 U2 y bc mL ry [aR q, za, zb] σ Q2 QX2) (hst : stW st ≤ 8) (hdd : d2 + 1 ≤ d) (hu : u + U2 ≤ U) (hx2 : ∀ (E : String) (σ' : Hp), QX2 E σ' → QX E σ') (k : ∀ (σ' : Hp), Q2 σ' → AW X K (pc + 3) lv st σ' (u + U2) (XI X K U Q9 QX)) : AW X K pc lv (zb :: za :: aR q :: st) σ u (XI X K U Q9 QX) := by
  obtain ⟨p, l, e, R, s, m, args, below, meth, c⟩ := X
  obtain ⟨g, cy, A, nL, ρ, L⟩ := K
  obtain ⟨hx, hb, hml, hown, hts, hK, hnd, hD, hA, hlk, hret, hR, htr, hZ, hE⟩ := F
  subst hR
  obtain ⟨hE1, rfl⟩ := hE
  intro H locs ls hP hS hl
  obtain ⟨⟨rr, hr1, hr2⟩, -⟩ := id hl9
  obtain ⟨i, hi, hi2⟩ := ws_at (ρ := ρ) (cy := cy) (σ := σ) (memL (by rw [hk]; intro z; cases z; exact absurd (vw_lt hr1) (by decide)) hm)
  rw [ent_obj hk] at hi2
  have hf9 : ∀ q, Aof ρ Lall H.size q → A q := fun q h => h.elim (fun ⟨i, hi, he⟩ => he ▸ wsA_D hD i hi) (fun h => hA q (Nat.le_trans hS.1 h))
  have hM := hc l g cy ρ H.size htr
  refine vx_callv (vx_runV (As := [za, zb].map (cv ρ)) (rest := st.map (cv ρ)) ⟨hx, hb, hml, hown, hts⟩ hM (hl9.cw hts hdd) ⟨WRs_blind, hr2 ▸ va_recv hK hP hr1 hi2, fun V hV hW => ⟨rfl, WRs_call hK hD hA hZ hP hS hV hW⟩⟩ rfl rfl hl.1 rfl (lv_room (Nat.le_trans (st_cat st) hst)) hd ⟨hu, by show 64 * u + 64 * U2 ≤ 64 * U; omega⟩) hS (fun q _ h => hf9 q h) hf9 (fun q _ h => hf9 q h) (fun E ce q9 u9 t9 H1 locs1 ht hvm _ hB hz1 hk1 hS1 hce hv hcl => ?_) (fun u9 t9 H1 locs1 ht hvm hw hB hz1 hk1 hS1 => ?_)
  · obtain ⟨hB0, hB1, hB2⟩ := hB
    refine vx_out (fun x hx => absurd (hE1 rfl x hx) id) hlk hce hv hcl (fun t' ht' hvm' => ⟨u9, trivial, ⟨hx2 E u9 hB0, ?_, va_K.moved hvm' hK⟩, hS1.F ht'⟩) hS1.2.2 hu (by show 64 * u + 64 * U2 ≤ 64 * U; omega)
    rw [ht', ← ht]
    exact hB1
  · have hP1 : va_P g vwCl (wsOf ρ cy Lall u9) H1 := by rw [← ht]; exact hB.1
    rw [show 64 * u + 64 * U2 = 64 * (u + U2) by omega]
    exact k u9 hw H1 locs1 ls hP1 hS1 hl
theorem aw_xcallVVV2 {za zb : AV} {Q2 : Hp → Prop} {QX2 QX : String → Hp → Prop} {Q9 : Hp → Prop} (F : Fx X K cc own ret d U true) (hd : decode cc pc = .ok (.invokevirtual idx, 3)) (hl9 : MLV own idx y bc mL ry t 2) (hk : kd q = .inl t) (hm : inB q) (hc : CxV d2 U2 y bc mL ry [aR q, za, zb] σ Q2 QX2) (hst : stW st ≤ 8) (hdd : d2 + 1 ≤ d) (hu : u + U2 ≤ U) (hx2 : ∀ (E : String) (σ' : Hp), QX2 E σ' → QX E σ') (k : ∀ (σ' : Hp), Q2 σ' → AW X K (pc + 3) lv st σ' (u + U2) (XV X K U Q9 QX)) : AW X K pc lv (zb :: za :: aR q :: st) σ u (XV X K U Q9 QX) := by
  obtain ⟨p, l, e, R, s, m, args, below, meth, c⟩ := X
  obtain ⟨g, cy, A, nL, ρ, L⟩ := K
  obtain ⟨hx, hb, hml, hown, hts, hK, hnd, hD, hA, hlk, hret, hR, htr, hZ, hE⟩ := F
  subst hR
  obtain ⟨hE1, rfl⟩ := hE
  intro H locs ls hP hS hl
  obtain ⟨⟨rr, hr1, hr2⟩, -⟩ := id hl9
  obtain ⟨i, hi, hi2⟩ := ws_at (ρ := ρ) (cy := cy) (σ := σ) (memL (by rw [hk]; intro z; cases z; exact absurd (vw_lt hr1) (by decide)) hm)
  rw [ent_obj hk] at hi2
  have hf9 : ∀ q, Aof ρ Lall H.size q → A q := fun q h => h.elim (fun ⟨i, hi, he⟩ => he ▸ wsA_D hD i hi) (fun h => hA q (Nat.le_trans hS.1 h))
  have hM := hc l g cy ρ H.size htr
  refine vx_callv (vx_runV (As := [za, zb].map (cv ρ)) (rest := st.map (cv ρ)) ⟨hx, hb, hml, hown, hts⟩ hM (hl9.cw hts hdd) ⟨WRs_blind, hr2 ▸ va_recv hK hP hr1 hi2, fun V hV hW => ⟨rfl, WRs_call hK hD hA hZ hP hS hV hW⟩⟩ rfl rfl hl.1 rfl (lv_room (Nat.le_trans (st_cat st) hst)) hd ⟨hu, by show 64 * u + 64 * U2 ≤ 64 * U; omega⟩) hS (fun q _ h => hf9 q h) hf9 (fun q _ h => hf9 q h) (fun E ce q9 u9 t9 H1 locs1 ht hvm _ hB hz1 hk1 hS1 hce hv hcl => ?_) (fun u9 t9 H1 locs1 ht hvm hw hB hz1 hk1 hS1 => ?_)
  · obtain ⟨hB0, hB1, hB2⟩ := hB
    refine vx_out (fun x hx => absurd (hE1 rfl x hx) id) hlk hce hv hcl (fun t' ht' hvm' => ⟨u9, trivial, ⟨hx2 E u9 hB0, ?_, va_K.moved hvm' hK⟩, hS1.F ht'⟩) hS1.2.2 hu (by show 64 * u + 64 * U2 ≤ 64 * U; omega)
    rw [ht', ← ht]
    exact hB1
  · have hP1 : va_P g vwCl (wsOf ρ cy Lall u9) H1 := by rw [← ht]; exact hB.1
    rw [show 64 * u + 64 * U2 = 64 * (u + U2) by omega]
    exact k u9 hw H1 locs1 ls hP1 hS1 hl
theorem aw_callVI3 {za zb zc : AV} {Q2 : Int → Hp → Prop} (F : Fx X K cc own ret d U tb) (hd : decode cc pc = .ok (.invokevirtual idx, 3)) (hl9 : MLV own idx y bc mL ry t 3) (hk : kd q = .inl t) (hm : inB q) (hc : CtI d2 0 y bc mL ry [aR q, za, zb, zc] σ Q2) (hst : stW st ≤ 8) (hdd : d2 + 1 ≤ d) (hu : u ≤ U) (k : ∀ (v : Int) (σ' : Hp), Q2 v σ' → AW X K (pc + 3) lv (aI v :: st) σ' u Q) : AW X K pc lv (zc :: zb :: za :: aR q :: st) σ u Q := by
  obtain ⟨p, l, e, R, s, m, args, below, meth, c⟩ := X
  obtain ⟨g, cy, A, nL, ρ, L⟩ := K
  obtain ⟨hx, hb, hml, hown, hts, hK, hnd, hD, hA, hlk, hret, hR, htr, hZ, hE⟩ := F
  subst hR
  obtain ⟨hE1, rfl⟩ := hE
  intro H locs ls hP hS hl
  obtain ⟨⟨rr, hr1, hr2⟩, -⟩ := id hl9
  obtain ⟨i, hi, hi2⟩ := ws_at (ρ := ρ) (cy := cy) (σ := σ) (memL (by rw [hk]; intro z; cases z; exact absurd (vw_lt hr1) (by decide)) hm)
  rw [ent_obj hk] at hi2
  have hf9 : ∀ q, Aof ρ Lall H.size q → A q := fun q h => h.elim (fun ⟨i, hi, he⟩ => he ▸ wsA_D hD i hi) (fun h => hA q (Nat.le_trans hS.1 h))
  have hM := hc l g cy ρ H.size htr
  refine va_calli (va_runV (As := [za, zb, zc].map (cv ρ)) (rest := st.map (cv ρ)) ⟨hx, hb, hml, hown, hts⟩ hM (hl9.cw hts hdd) ⟨WRs_blind, hr2 ▸ va_recv hK hP hr1 hi2, fun V hV hW => ⟨rfl, WRs_call hK hD hA hZ hP hS hV hW⟩⟩ rfl rfl hl.1 rfl (lv_room (Nat.le_trans (st_cat st) hst)) hd ⟨hu, by show 64 * u + 64 * 0 ≤ 64 * U; omega⟩) hS (fun q _ h => hf9 q h) hf9 (fun v9 u9 t9 H1 locs1 ht hvm hw hB hz1 hk1 hS1 => ?_)
  obtain ⟨hw1, hw2⟩ := hw
  subst hw1
  have hP1 : va_P g vwCl (wsOf ρ cy Lall u9.2) H1 := by rw [← ht]; exact hB.1
  exact k u9.1 u9.2 hw2 H1 locs1 ls hP1 hS1 hl
theorem aw_pcallV3 {za zb zc : AV} {e9 : Int} (F : Fx X K cc own ret d U tb) (hd : decode cc pc = .ok (.invokevirtual idx, 3)) (hl9 : MLV own idx y bc mL ry t 3) (hk : kd q = .inl t) (hm : inB q) (hc : CtI d2 0 y bc mL ry [aR q, za, zb, zc] σ (PU σ e9)) (hst : stW st ≤ 8) (hdd : d2 + 1 ≤ d) (hu : u ≤ U) (k : AW X K (pc + 3) lv (aI e9 :: st) σ u Q) : AW X K pc lv (zc :: zb :: za :: aR q :: st) σ u Q :=
  aw_callVI3 F hd hl9 hk hm hc hst hdd hu (fun v9 s9 h => by obtain ⟨rfl, rfl⟩ := h; exact k)
theorem aw_xcallVII3 {za zb zc : AV} {Q2 : Int → Hp → Prop} {QX2 QX : String → Hp → Prop} {Q9 : Int → Hp → Prop} (F : Fx X K cc own ret d U true) (hd : decode cc pc = .ok (.invokevirtual idx, 3)) (hl9 : MLV own idx y bc mL ry t 3) (hk : kd q = .inl t) (hm : inB q) (hc : CxI d2 U2 y bc mL ry [aR q, za, zb, zc] σ Q2 QX2) (hst : stW st ≤ 8) (hdd : d2 + 1 ≤ d) (hu : u + U2 ≤ U) (hx2 : ∀ (E : String) (σ' : Hp), QX2 E σ' → QX E σ') (k : ∀ (v : Int) (σ' : Hp), Q2 v σ' → AW X K (pc + 3) lv (aI v :: st) σ' (u + U2) (XI X K U Q9 QX)) : AW X K pc lv (zc :: zb :: za :: aR q :: st) σ u (XI X K U Q9 QX) := by
  obtain ⟨p, l, e, R, s, m, args, below, meth, c⟩ := X
  obtain ⟨g, cy, A, nL, ρ, L⟩ := K
  obtain ⟨hx, hb, hml, hown, hts, hK, hnd, hD, hA, hlk, hret, hR, htr, hZ, hE⟩ := F
  subst hR
  obtain ⟨hE1, rfl⟩ := hE
  intro H locs ls hP hS hl
  obtain ⟨⟨rr, hr1, hr2⟩, -⟩ := id hl9
  obtain ⟨i, hi, hi2⟩ := ws_at (ρ := ρ) (cy := cy) (σ := σ) (memL (by rw [hk]; intro z; cases z; exact absurd (vw_lt hr1) (by decide)) hm)
  rw [ent_obj hk] at hi2
  have hf9 : ∀ q, Aof ρ Lall H.size q → A q := fun q h => h.elim (fun ⟨i, hi, he⟩ => he ▸ wsA_D hD i hi) (fun h => hA q (Nat.le_trans hS.1 h))
  have hM := hc l g cy ρ H.size htr
  refine vx_calli (vx_runV (As := [za, zb, zc].map (cv ρ)) (rest := st.map (cv ρ)) ⟨hx, hb, hml, hown, hts⟩ hM (hl9.cw hts hdd) ⟨WRs_blind, hr2 ▸ va_recv hK hP hr1 hi2, fun V hV hW => ⟨rfl, WRs_call hK hD hA hZ hP hS hV hW⟩⟩ rfl rfl hl.1 rfl (lv_room (Nat.le_trans (st_cat st) hst)) hd ⟨hu, by show 64 * u + 64 * U2 ≤ 64 * U; omega⟩) hS (fun q _ h => hf9 q h) hf9 (fun q _ h => hf9 q h) (fun E ce q9 u9 t9 H1 locs1 ht hvm _ hB hz1 hk1 hS1 hce hv hcl => ?_) (fun v9 u9 t9 H1 locs1 ht hvm hw hB hz1 hk1 hS1 => ?_)
  · obtain ⟨hB0, hB1, hB2⟩ := hB
    refine vx_out (fun x hx => absurd (hE1 rfl x hx) id) hlk hce hv hcl (fun t' ht' hvm' => ⟨u9, trivial, ⟨hx2 E u9 hB0, ?_, va_K.moved hvm' hK⟩, hS1.F ht'⟩) hS1.2.2 hu (by show 64 * u + 64 * U2 ≤ 64 * U; omega)
    rw [ht', ← ht]
    exact hB1
  · obtain ⟨hw1, hw2⟩ := hw
    subst hw1
    have hP1 : va_P g vwCl (wsOf ρ cy Lall u9.2) H1 := by rw [← ht]; exact hB.1
    rw [show 64 * u + 64 * U2 = 64 * (u + U2) by omega]
    exact k u9.1 u9.2 hw2 H1 locs1 ls hP1 hS1 hl
theorem aw_xcallVIV3 {za zb zc : AV} {Q2 : Int → Hp → Prop} {QX2 QX : String → Hp → Prop} {Q9 : Hp → Prop} (F : Fx X K cc own ret d U true) (hd : decode cc pc = .ok (.invokevirtual idx, 3)) (hl9 : MLV own idx y bc mL ry t 3) (hk : kd q = .inl t) (hm : inB q) (hc : CxI d2 U2 y bc mL ry [aR q, za, zb, zc] σ Q2 QX2) (hst : stW st ≤ 8) (hdd : d2 + 1 ≤ d) (hu : u + U2 ≤ U) (hx2 : ∀ (E : String) (σ' : Hp), QX2 E σ' → QX E σ') (k : ∀ (v : Int) (σ' : Hp), Q2 v σ' → AW X K (pc + 3) lv (aI v :: st) σ' (u + U2) (XV X K U Q9 QX)) : AW X K pc lv (zc :: zb :: za :: aR q :: st) σ u (XV X K U Q9 QX) := by
  obtain ⟨p, l, e, R, s, m, args, below, meth, c⟩ := X
  obtain ⟨g, cy, A, nL, ρ, L⟩ := K
  obtain ⟨hx, hb, hml, hown, hts, hK, hnd, hD, hA, hlk, hret, hR, htr, hZ, hE⟩ := F
  subst hR
  obtain ⟨hE1, rfl⟩ := hE
  intro H locs ls hP hS hl
  obtain ⟨⟨rr, hr1, hr2⟩, -⟩ := id hl9
  obtain ⟨i, hi, hi2⟩ := ws_at (ρ := ρ) (cy := cy) (σ := σ) (memL (by rw [hk]; intro z; cases z; exact absurd (vw_lt hr1) (by decide)) hm)
  rw [ent_obj hk] at hi2
  have hf9 : ∀ q, Aof ρ Lall H.size q → A q := fun q h => h.elim (fun ⟨i, hi, he⟩ => he ▸ wsA_D hD i hi) (fun h => hA q (Nat.le_trans hS.1 h))
  have hM := hc l g cy ρ H.size htr
  refine vx_calli (vx_runV (As := [za, zb, zc].map (cv ρ)) (rest := st.map (cv ρ)) ⟨hx, hb, hml, hown, hts⟩ hM (hl9.cw hts hdd) ⟨WRs_blind, hr2 ▸ va_recv hK hP hr1 hi2, fun V hV hW => ⟨rfl, WRs_call hK hD hA hZ hP hS hV hW⟩⟩ rfl rfl hl.1 rfl (lv_room (Nat.le_trans (st_cat st) hst)) hd ⟨hu, by show 64 * u + 64 * U2 ≤ 64 * U; omega⟩) hS (fun q _ h => hf9 q h) hf9 (fun q _ h => hf9 q h) (fun E ce q9 u9 t9 H1 locs1 ht hvm _ hB hz1 hk1 hS1 hce hv hcl => ?_) (fun v9 u9 t9 H1 locs1 ht hvm hw hB hz1 hk1 hS1 => ?_)
  · obtain ⟨hB0, hB1, hB2⟩ := hB
    refine vx_out (fun x hx => absurd (hE1 rfl x hx) id) hlk hce hv hcl (fun t' ht' hvm' => ⟨u9, trivial, ⟨hx2 E u9 hB0, ?_, va_K.moved hvm' hK⟩, hS1.F ht'⟩) hS1.2.2 hu (by show 64 * u + 64 * U2 ≤ 64 * U; omega)
    rw [ht', ← ht]
    exact hB1
  · obtain ⟨hw1, hw2⟩ := hw
    subst hw1
    have hP1 : va_P g vwCl (wsOf ρ cy Lall u9.2) H1 := by rw [← ht]; exact hB.1
    rw [show 64 * u + 64 * U2 = 64 * (u + U2) by omega]
    exact k u9.1 u9.2 hw2 H1 locs1 ls hP1 hS1 hl
theorem aw_callVV3 {za zb zc : AV} {Q2 : Hp → Prop} (F : Fx X K cc own ret d U tb) (hd : decode cc pc = .ok (.invokevirtual idx, 3)) (hl9 : MLV own idx y bc mL ry t 3) (hk : kd q = .inl t) (hm : inB q) (hc : CtV d2 0 y bc mL ry [aR q, za, zb, zc] σ Q2) (hst : stW st ≤ 8) (hdd : d2 + 1 ≤ d) (hu : u ≤ U) (k : ∀ (σ' : Hp), Q2 σ' → AW X K (pc + 3) lv st σ' u Q) : AW X K pc lv (zc :: zb :: za :: aR q :: st) σ u Q := by
  obtain ⟨p, l, e, R, s, m, args, below, meth, c⟩ := X
  obtain ⟨g, cy, A, nL, ρ, L⟩ := K
  obtain ⟨hx, hb, hml, hown, hts, hK, hnd, hD, hA, hlk, hret, hR, htr, hZ, hE⟩ := F
  subst hR
  obtain ⟨hE1, rfl⟩ := hE
  intro H locs ls hP hS hl
  obtain ⟨⟨rr, hr1, hr2⟩, -⟩ := id hl9
  obtain ⟨i, hi, hi2⟩ := ws_at (ρ := ρ) (cy := cy) (σ := σ) (memL (by rw [hk]; intro z; cases z; exact absurd (vw_lt hr1) (by decide)) hm)
  rw [ent_obj hk] at hi2
  have hf9 : ∀ q, Aof ρ Lall H.size q → A q := fun q h => h.elim (fun ⟨i, hi, he⟩ => he ▸ wsA_D hD i hi) (fun h => hA q (Nat.le_trans hS.1 h))
  have hM := hc l g cy ρ H.size htr
  refine va_callv (va_runV (As := [za, zb, zc].map (cv ρ)) (rest := st.map (cv ρ)) ⟨hx, hb, hml, hown, hts⟩ hM (hl9.cw hts hdd) ⟨WRs_blind, hr2 ▸ va_recv hK hP hr1 hi2, fun V hV hW => ⟨rfl, WRs_call hK hD hA hZ hP hS hV hW⟩⟩ rfl rfl hl.1 rfl (lv_room (Nat.le_trans (st_cat st) hst)) hd ⟨hu, by show 64 * u + 64 * 0 ≤ 64 * U; omega⟩) hS (fun q _ h => hf9 q h) hf9 (fun u9 t9 H1 locs1 ht hvm hw hB hz1 hk1 hS1 => ?_)
  have hP1 : va_P g vwCl (wsOf ρ cy Lall u9) H1 := by rw [← ht]; exact hB.1
  exact k u9 hw H1 locs1 ls hP1 hS1 hl
theorem aw_xcallVVI3 {za zb zc : AV} {Q2 : Hp → Prop} {QX2 QX : String → Hp → Prop} {Q9 : Int → Hp → Prop} (F : Fx X K cc own ret d U true) (hd : decode cc pc = .ok (.invokevirtual idx, 3)) (hl9 : MLV own idx y bc mL ry t 3) (hk : kd q = .inl t) (hm : inB q) (hc : CxV d2 U2 y bc mL ry [aR q, za, zb, zc] σ Q2 QX2) (hst : stW st ≤ 8) (hdd : d2 + 1 ≤ d) (hu : u + U2 ≤ U) (hx2 : ∀ (E : String) (σ' : Hp), QX2 E σ' → QX E σ') (k : ∀ (σ' : Hp), Q2 σ' → AW X K (pc + 3) lv st σ' (u + U2) (XI X K U Q9 QX)) : AW X K pc lv (zc :: zb :: za :: aR q :: st) σ u (XI X K U Q9 QX) := by
  obtain ⟨p, l, e, R, s, m, args, below, meth, c⟩ := X
  obtain ⟨g, cy, A, nL, ρ, L⟩ := K
  obtain ⟨hx, hb, hml, hown, hts, hK, hnd, hD, hA, hlk, hret, hR, htr, hZ, hE⟩ := F
  subst hR
  obtain ⟨hE1, rfl⟩ := hE
  intro H locs ls hP hS hl
  obtain ⟨⟨rr, hr1, hr2⟩, -⟩ := id hl9
  obtain ⟨i, hi, hi2⟩ := ws_at (ρ := ρ) (cy := cy) (σ := σ) (memL (by rw [hk]; intro z; cases z; exact absurd (vw_lt hr1) (by decide)) hm)
  rw [ent_obj hk] at hi2
  have hf9 : ∀ q, Aof ρ Lall H.size q → A q := fun q h => h.elim (fun ⟨i, hi, he⟩ => he ▸ wsA_D hD i hi) (fun h => hA q (Nat.le_trans hS.1 h))
  have hM := hc l g cy ρ H.size htr
  refine vx_callv (vx_runV (As := [za, zb, zc].map (cv ρ)) (rest := st.map (cv ρ)) ⟨hx, hb, hml, hown, hts⟩ hM (hl9.cw hts hdd) ⟨WRs_blind, hr2 ▸ va_recv hK hP hr1 hi2, fun V hV hW => ⟨rfl, WRs_call hK hD hA hZ hP hS hV hW⟩⟩ rfl rfl hl.1 rfl (lv_room (Nat.le_trans (st_cat st) hst)) hd ⟨hu, by show 64 * u + 64 * U2 ≤ 64 * U; omega⟩) hS (fun q _ h => hf9 q h) hf9 (fun q _ h => hf9 q h) (fun E ce q9 u9 t9 H1 locs1 ht hvm _ hB hz1 hk1 hS1 hce hv hcl => ?_) (fun u9 t9 H1 locs1 ht hvm hw hB hz1 hk1 hS1 => ?_)
  · obtain ⟨hB0, hB1, hB2⟩ := hB
    refine vx_out (fun x hx => absurd (hE1 rfl x hx) id) hlk hce hv hcl (fun t' ht' hvm' => ⟨u9, trivial, ⟨hx2 E u9 hB0, ?_, va_K.moved hvm' hK⟩, hS1.F ht'⟩) hS1.2.2 hu (by show 64 * u + 64 * U2 ≤ 64 * U; omega)
    rw [ht', ← ht]
    exact hB1
  · have hP1 : va_P g vwCl (wsOf ρ cy Lall u9) H1 := by rw [← ht]; exact hB.1
    rw [show 64 * u + 64 * U2 = 64 * (u + U2) by omega]
    exact k u9 hw H1 locs1 ls hP1 hS1 hl
theorem aw_xcallVVV3 {za zb zc : AV} {Q2 : Hp → Prop} {QX2 QX : String → Hp → Prop} {Q9 : Hp → Prop} (F : Fx X K cc own ret d U true) (hd : decode cc pc = .ok (.invokevirtual idx, 3)) (hl9 : MLV own idx y bc mL ry t 3) (hk : kd q = .inl t) (hm : inB q) (hc : CxV d2 U2 y bc mL ry [aR q, za, zb, zc] σ Q2 QX2) (hst : stW st ≤ 8) (hdd : d2 + 1 ≤ d) (hu : u + U2 ≤ U) (hx2 : ∀ (E : String) (σ' : Hp), QX2 E σ' → QX E σ') (k : ∀ (σ' : Hp), Q2 σ' → AW X K (pc + 3) lv st σ' (u + U2) (XV X K U Q9 QX)) : AW X K pc lv (zc :: zb :: za :: aR q :: st) σ u (XV X K U Q9 QX) := by
  obtain ⟨p, l, e, R, s, m, args, below, meth, c⟩ := X
  obtain ⟨g, cy, A, nL, ρ, L⟩ := K
  obtain ⟨hx, hb, hml, hown, hts, hK, hnd, hD, hA, hlk, hret, hR, htr, hZ, hE⟩ := F
  subst hR
  obtain ⟨hE1, rfl⟩ := hE
  intro H locs ls hP hS hl
  obtain ⟨⟨rr, hr1, hr2⟩, -⟩ := id hl9
  obtain ⟨i, hi, hi2⟩ := ws_at (ρ := ρ) (cy := cy) (σ := σ) (memL (by rw [hk]; intro z; cases z; exact absurd (vw_lt hr1) (by decide)) hm)
  rw [ent_obj hk] at hi2
  have hf9 : ∀ q, Aof ρ Lall H.size q → A q := fun q h => h.elim (fun ⟨i, hi, he⟩ => he ▸ wsA_D hD i hi) (fun h => hA q (Nat.le_trans hS.1 h))
  have hM := hc l g cy ρ H.size htr
  refine vx_callv (vx_runV (As := [za, zb, zc].map (cv ρ)) (rest := st.map (cv ρ)) ⟨hx, hb, hml, hown, hts⟩ hM (hl9.cw hts hdd) ⟨WRs_blind, hr2 ▸ va_recv hK hP hr1 hi2, fun V hV hW => ⟨rfl, WRs_call hK hD hA hZ hP hS hV hW⟩⟩ rfl rfl hl.1 rfl (lv_room (Nat.le_trans (st_cat st) hst)) hd ⟨hu, by show 64 * u + 64 * U2 ≤ 64 * U; omega⟩) hS (fun q _ h => hf9 q h) hf9 (fun q _ h => hf9 q h) (fun E ce q9 u9 t9 H1 locs1 ht hvm _ hB hz1 hk1 hS1 hce hv hcl => ?_) (fun u9 t9 H1 locs1 ht hvm hw hB hz1 hk1 hS1 => ?_)
  · obtain ⟨hB0, hB1, hB2⟩ := hB
    refine vx_out (fun x hx => absurd (hE1 rfl x hx) id) hlk hce hv hcl (fun t' ht' hvm' => ⟨u9, trivial, ⟨hx2 E u9 hB0, ?_, va_K.moved hvm' hK⟩, hS1.F ht'⟩) hS1.2.2 hu (by show 64 * u + 64 * U2 ≤ 64 * U; omega)
    rw [ht', ← ht]
    exact hB1
  · have hP1 : va_P g vwCl (wsOf ρ cy Lall u9) H1 := by rw [← ht]; exact hB.1
    rw [show 64 * u + 64 * U2 = 64 * (u + U2) by omega]
    exact k u9 hw H1 locs1 ls hP1 hS1 hl
theorem aw_callVI4 {za zb zc zd : AV} {Q2 : Int → Hp → Prop} (F : Fx X K cc own ret d U tb) (hd : decode cc pc = .ok (.invokevirtual idx, 3)) (hl9 : MLV own idx y bc mL ry t 4) (hk : kd q = .inl t) (hm : inB q) (hc : CtI d2 0 y bc mL ry [aR q, za, zb, zc, zd] σ Q2) (hst : stW st ≤ 8) (hdd : d2 + 1 ≤ d) (hu : u ≤ U) (k : ∀ (v : Int) (σ' : Hp), Q2 v σ' → AW X K (pc + 3) lv (aI v :: st) σ' u Q) : AW X K pc lv (zd :: zc :: zb :: za :: aR q :: st) σ u Q := by
  obtain ⟨p, l, e, R, s, m, args, below, meth, c⟩ := X
  obtain ⟨g, cy, A, nL, ρ, L⟩ := K
  obtain ⟨hx, hb, hml, hown, hts, hK, hnd, hD, hA, hlk, hret, hR, htr, hZ, hE⟩ := F
  subst hR
  obtain ⟨hE1, rfl⟩ := hE
  intro H locs ls hP hS hl
  obtain ⟨⟨rr, hr1, hr2⟩, -⟩ := id hl9
  obtain ⟨i, hi, hi2⟩ := ws_at (ρ := ρ) (cy := cy) (σ := σ) (memL (by rw [hk]; intro z; cases z; exact absurd (vw_lt hr1) (by decide)) hm)
  rw [ent_obj hk] at hi2
  have hf9 : ∀ q, Aof ρ Lall H.size q → A q := fun q h => h.elim (fun ⟨i, hi, he⟩ => he ▸ wsA_D hD i hi) (fun h => hA q (Nat.le_trans hS.1 h))
  have hM := hc l g cy ρ H.size htr
  refine va_calli (va_runV (As := [za, zb, zc, zd].map (cv ρ)) (rest := st.map (cv ρ)) ⟨hx, hb, hml, hown, hts⟩ hM (hl9.cw hts hdd) ⟨WRs_blind, hr2 ▸ va_recv hK hP hr1 hi2, fun V hV hW => ⟨rfl, WRs_call hK hD hA hZ hP hS hV hW⟩⟩ rfl rfl hl.1 rfl (lv_room (Nat.le_trans (st_cat st) hst)) hd ⟨hu, by show 64 * u + 64 * 0 ≤ 64 * U; omega⟩) hS (fun q _ h => hf9 q h) hf9 (fun v9 u9 t9 H1 locs1 ht hvm hw hB hz1 hk1 hS1 => ?_)
  obtain ⟨hw1, hw2⟩ := hw
  subst hw1
  have hP1 : va_P g vwCl (wsOf ρ cy Lall u9.2) H1 := by rw [← ht]; exact hB.1
  exact k u9.1 u9.2 hw2 H1 locs1 ls hP1 hS1 hl
theorem aw_pcallV4 {za zb zc zd : AV} {e9 : Int} (F : Fx X K cc own ret d U tb) (hd : decode cc pc = .ok (.invokevirtual idx, 3)) (hl9 : MLV own idx y bc mL ry t 4) (hk : kd q = .inl t) (hm : inB q) (hc : CtI d2 0 y bc mL ry [aR q, za, zb, zc, zd] σ (PU σ e9)) (hst : stW st ≤ 8) (hdd : d2 + 1 ≤ d) (hu : u ≤ U) (k : AW X K (pc + 3) lv (aI e9 :: st) σ u Q) : AW X K pc lv (zd :: zc :: zb :: za :: aR q :: st) σ u Q :=
  aw_callVI4 F hd hl9 hk hm hc hst hdd hu (fun v9 s9 h => by obtain ⟨rfl, rfl⟩ := h; exact k)
theorem aw_xcallVII4 {za zb zc zd : AV} {Q2 : Int → Hp → Prop} {QX2 QX : String → Hp → Prop} {Q9 : Int → Hp → Prop} (F : Fx X K cc own ret d U true) (hd : decode cc pc = .ok (.invokevirtual idx, 3)) (hl9 : MLV own idx y bc mL ry t 4) (hk : kd q = .inl t) (hm : inB q) (hc : CxI d2 U2 y bc mL ry [aR q, za, zb, zc, zd] σ Q2 QX2) (hst : stW st ≤ 8) (hdd : d2 + 1 ≤ d) (hu : u + U2 ≤ U) (hx2 : ∀ (E : String) (σ' : Hp), QX2 E σ' → QX E σ') (k : ∀ (v : Int) (σ' : Hp), Q2 v σ' → AW X K (pc + 3) lv (aI v :: st) σ' (u + U2) (XI X K U Q9 QX)) : AW X K pc lv (zd :: zc :: zb :: za :: aR q :: st) σ u (XI X K U Q9 QX) := by
  obtain ⟨p, l, e, R, s, m, args, below, meth, c⟩ := X
  obtain ⟨g, cy, A, nL, ρ, L⟩ := K
  obtain ⟨hx, hb, hml, hown, hts, hK, hnd, hD, hA, hlk, hret, hR, htr, hZ, hE⟩ := F
  subst hR
  obtain ⟨hE1, rfl⟩ := hE
  intro H locs ls hP hS hl
  obtain ⟨⟨rr, hr1, hr2⟩, -⟩ := id hl9
  obtain ⟨i, hi, hi2⟩ := ws_at (ρ := ρ) (cy := cy) (σ := σ) (memL (by rw [hk]; intro z; cases z; exact absurd (vw_lt hr1) (by decide)) hm)
  rw [ent_obj hk] at hi2
  have hf9 : ∀ q, Aof ρ Lall H.size q → A q := fun q h => h.elim (fun ⟨i, hi, he⟩ => he ▸ wsA_D hD i hi) (fun h => hA q (Nat.le_trans hS.1 h))
  have hM := hc l g cy ρ H.size htr
  refine vx_calli (vx_runV (As := [za, zb, zc, zd].map (cv ρ)) (rest := st.map (cv ρ)) ⟨hx, hb, hml, hown, hts⟩ hM (hl9.cw hts hdd) ⟨WRs_blind, hr2 ▸ va_recv hK hP hr1 hi2, fun V hV hW => ⟨rfl, WRs_call hK hD hA hZ hP hS hV hW⟩⟩ rfl rfl hl.1 rfl (lv_room (Nat.le_trans (st_cat st) hst)) hd ⟨hu, by show 64 * u + 64 * U2 ≤ 64 * U; omega⟩) hS (fun q _ h => hf9 q h) hf9 (fun q _ h => hf9 q h) (fun E ce q9 u9 t9 H1 locs1 ht hvm _ hB hz1 hk1 hS1 hce hv hcl => ?_) (fun v9 u9 t9 H1 locs1 ht hvm hw hB hz1 hk1 hS1 => ?_)
  · obtain ⟨hB0, hB1, hB2⟩ := hB
    refine vx_out (fun x hx => absurd (hE1 rfl x hx) id) hlk hce hv hcl (fun t' ht' hvm' => ⟨u9, trivial, ⟨hx2 E u9 hB0, ?_, va_K.moved hvm' hK⟩, hS1.F ht'⟩) hS1.2.2 hu (by show 64 * u + 64 * U2 ≤ 64 * U; omega)
    rw [ht', ← ht]
    exact hB1
  · obtain ⟨hw1, hw2⟩ := hw
    subst hw1
    have hP1 : va_P g vwCl (wsOf ρ cy Lall u9.2) H1 := by rw [← ht]; exact hB.1
    rw [show 64 * u + 64 * U2 = 64 * (u + U2) by omega]
    exact k u9.1 u9.2 hw2 H1 locs1 ls hP1 hS1 hl
theorem aw_xcallVIV4 {za zb zc zd : AV} {Q2 : Int → Hp → Prop} {QX2 QX : String → Hp → Prop} {Q9 : Hp → Prop} (F : Fx X K cc own ret d U true) (hd : decode cc pc = .ok (.invokevirtual idx, 3)) (hl9 : MLV own idx y bc mL ry t 4) (hk : kd q = .inl t) (hm : inB q) (hc : CxI d2 U2 y bc mL ry [aR q, za, zb, zc, zd] σ Q2 QX2) (hst : stW st ≤ 8) (hdd : d2 + 1 ≤ d) (hu : u + U2 ≤ U) (hx2 : ∀ (E : String) (σ' : Hp), QX2 E σ' → QX E σ') (k : ∀ (v : Int) (σ' : Hp), Q2 v σ' → AW X K (pc + 3) lv (aI v :: st) σ' (u + U2) (XV X K U Q9 QX)) : AW X K pc lv (zd :: zc :: zb :: za :: aR q :: st) σ u (XV X K U Q9 QX) := by
  obtain ⟨p, l, e, R, s, m, args, below, meth, c⟩ := X
  obtain ⟨g, cy, A, nL, ρ, L⟩ := K
  obtain ⟨hx, hb, hml, hown, hts, hK, hnd, hD, hA, hlk, hret, hR, htr, hZ, hE⟩ := F
  subst hR
  obtain ⟨hE1, rfl⟩ := hE
  intro H locs ls hP hS hl
  obtain ⟨⟨rr, hr1, hr2⟩, -⟩ := id hl9
  obtain ⟨i, hi, hi2⟩ := ws_at (ρ := ρ) (cy := cy) (σ := σ) (memL (by rw [hk]; intro z; cases z; exact absurd (vw_lt hr1) (by decide)) hm)
  rw [ent_obj hk] at hi2
  have hf9 : ∀ q, Aof ρ Lall H.size q → A q := fun q h => h.elim (fun ⟨i, hi, he⟩ => he ▸ wsA_D hD i hi) (fun h => hA q (Nat.le_trans hS.1 h))
  have hM := hc l g cy ρ H.size htr
  refine vx_calli (vx_runV (As := [za, zb, zc, zd].map (cv ρ)) (rest := st.map (cv ρ)) ⟨hx, hb, hml, hown, hts⟩ hM (hl9.cw hts hdd) ⟨WRs_blind, hr2 ▸ va_recv hK hP hr1 hi2, fun V hV hW => ⟨rfl, WRs_call hK hD hA hZ hP hS hV hW⟩⟩ rfl rfl hl.1 rfl (lv_room (Nat.le_trans (st_cat st) hst)) hd ⟨hu, by show 64 * u + 64 * U2 ≤ 64 * U; omega⟩) hS (fun q _ h => hf9 q h) hf9 (fun q _ h => hf9 q h) (fun E ce q9 u9 t9 H1 locs1 ht hvm _ hB hz1 hk1 hS1 hce hv hcl => ?_) (fun v9 u9 t9 H1 locs1 ht hvm hw hB hz1 hk1 hS1 => ?_)
  · obtain ⟨hB0, hB1, hB2⟩ := hB
    refine vx_out (fun x hx => absurd (hE1 rfl x hx) id) hlk hce hv hcl (fun t' ht' hvm' => ⟨u9, trivial, ⟨hx2 E u9 hB0, ?_, va_K.moved hvm' hK⟩, hS1.F ht'⟩) hS1.2.2 hu (by show 64 * u + 64 * U2 ≤ 64 * U; omega)
    rw [ht', ← ht]
    exact hB1
  · obtain ⟨hw1, hw2⟩ := hw
    subst hw1
    have hP1 : va_P g vwCl (wsOf ρ cy Lall u9.2) H1 := by rw [← ht]; exact hB.1
    rw [show 64 * u + 64 * U2 = 64 * (u + U2) by omega]
    exact k u9.1 u9.2 hw2 H1 locs1 ls hP1 hS1 hl
theorem aw_callVV4 {za zb zc zd : AV} {Q2 : Hp → Prop} (F : Fx X K cc own ret d U tb) (hd : decode cc pc = .ok (.invokevirtual idx, 3)) (hl9 : MLV own idx y bc mL ry t 4) (hk : kd q = .inl t) (hm : inB q) (hc : CtV d2 0 y bc mL ry [aR q, za, zb, zc, zd] σ Q2) (hst : stW st ≤ 8) (hdd : d2 + 1 ≤ d) (hu : u ≤ U) (k : ∀ (σ' : Hp), Q2 σ' → AW X K (pc + 3) lv st σ' u Q) : AW X K pc lv (zd :: zc :: zb :: za :: aR q :: st) σ u Q := by
  obtain ⟨p, l, e, R, s, m, args, below, meth, c⟩ := X
  obtain ⟨g, cy, A, nL, ρ, L⟩ := K
  obtain ⟨hx, hb, hml, hown, hts, hK, hnd, hD, hA, hlk, hret, hR, htr, hZ, hE⟩ := F
  subst hR
  obtain ⟨hE1, rfl⟩ := hE
  intro H locs ls hP hS hl
  obtain ⟨⟨rr, hr1, hr2⟩, -⟩ := id hl9
  obtain ⟨i, hi, hi2⟩ := ws_at (ρ := ρ) (cy := cy) (σ := σ) (memL (by rw [hk]; intro z; cases z; exact absurd (vw_lt hr1) (by decide)) hm)
  rw [ent_obj hk] at hi2
  have hf9 : ∀ q, Aof ρ Lall H.size q → A q := fun q h => h.elim (fun ⟨i, hi, he⟩ => he ▸ wsA_D hD i hi) (fun h => hA q (Nat.le_trans hS.1 h))
  have hM := hc l g cy ρ H.size htr
  refine va_callv (va_runV (As := [za, zb, zc, zd].map (cv ρ)) (rest := st.map (cv ρ)) ⟨hx, hb, hml, hown, hts⟩ hM (hl9.cw hts hdd) ⟨WRs_blind, hr2 ▸ va_recv hK hP hr1 hi2, fun V hV hW => ⟨rfl, WRs_call hK hD hA hZ hP hS hV hW⟩⟩ rfl rfl hl.1 rfl (lv_room (Nat.le_trans (st_cat st) hst)) hd ⟨hu, by show 64 * u + 64 * 0 ≤ 64 * U; omega⟩) hS (fun q _ h => hf9 q h) hf9 (fun u9 t9 H1 locs1 ht hvm hw hB hz1 hk1 hS1 => ?_)
  have hP1 : va_P g vwCl (wsOf ρ cy Lall u9) H1 := by rw [← ht]; exact hB.1
  exact k u9 hw H1 locs1 ls hP1 hS1 hl
theorem aw_xcallVVI4 {za zb zc zd : AV} {Q2 : Hp → Prop} {QX2 QX : String → Hp → Prop} {Q9 : Int → Hp → Prop} (F : Fx X K cc own ret d U true) (hd : decode cc pc = .ok (.invokevirtual idx, 3)) (hl9 : MLV own idx y bc mL ry t 4) (hk : kd q = .inl t) (hm : inB q) (hc : CxV d2 U2 y bc mL ry [aR q, za, zb, zc, zd] σ Q2 QX2) (hst : stW st ≤ 8) (hdd : d2 + 1 ≤ d) (hu : u + U2 ≤ U) (hx2 : ∀ (E : String) (σ' : Hp), QX2 E σ' → QX E σ') (k : ∀ (σ' : Hp), Q2 σ' → AW X K (pc + 3) lv st σ' (u + U2) (XI X K U Q9 QX)) : AW X K pc lv (zd :: zc :: zb :: za :: aR q :: st) σ u (XI X K U Q9 QX) := by
  obtain ⟨p, l, e, R, s, m, args, below, meth, c⟩ := X
  obtain ⟨g, cy, A, nL, ρ, L⟩ := K
  obtain ⟨hx, hb, hml, hown, hts, hK, hnd, hD, hA, hlk, hret, hR, htr, hZ, hE⟩ := F
  subst hR
  obtain ⟨hE1, rfl⟩ := hE
  intro H locs ls hP hS hl
  obtain ⟨⟨rr, hr1, hr2⟩, -⟩ := id hl9
  obtain ⟨i, hi, hi2⟩ := ws_at (ρ := ρ) (cy := cy) (σ := σ) (memL (by rw [hk]; intro z; cases z; exact absurd (vw_lt hr1) (by decide)) hm)
  rw [ent_obj hk] at hi2
  have hf9 : ∀ q, Aof ρ Lall H.size q → A q := fun q h => h.elim (fun ⟨i, hi, he⟩ => he ▸ wsA_D hD i hi) (fun h => hA q (Nat.le_trans hS.1 h))
  have hM := hc l g cy ρ H.size htr
  refine vx_callv (vx_runV (As := [za, zb, zc, zd].map (cv ρ)) (rest := st.map (cv ρ)) ⟨hx, hb, hml, hown, hts⟩ hM (hl9.cw hts hdd) ⟨WRs_blind, hr2 ▸ va_recv hK hP hr1 hi2, fun V hV hW => ⟨rfl, WRs_call hK hD hA hZ hP hS hV hW⟩⟩ rfl rfl hl.1 rfl (lv_room (Nat.le_trans (st_cat st) hst)) hd ⟨hu, by show 64 * u + 64 * U2 ≤ 64 * U; omega⟩) hS (fun q _ h => hf9 q h) hf9 (fun q _ h => hf9 q h) (fun E ce q9 u9 t9 H1 locs1 ht hvm _ hB hz1 hk1 hS1 hce hv hcl => ?_) (fun u9 t9 H1 locs1 ht hvm hw hB hz1 hk1 hS1 => ?_)
  · obtain ⟨hB0, hB1, hB2⟩ := hB
    refine vx_out (fun x hx => absurd (hE1 rfl x hx) id) hlk hce hv hcl (fun t' ht' hvm' => ⟨u9, trivial, ⟨hx2 E u9 hB0, ?_, va_K.moved hvm' hK⟩, hS1.F ht'⟩) hS1.2.2 hu (by show 64 * u + 64 * U2 ≤ 64 * U; omega)
    rw [ht', ← ht]
    exact hB1
  · have hP1 : va_P g vwCl (wsOf ρ cy Lall u9) H1 := by rw [← ht]; exact hB.1
    rw [show 64 * u + 64 * U2 = 64 * (u + U2) by omega]
    exact k u9 hw H1 locs1 ls hP1 hS1 hl
theorem aw_xcallVVV4 {za zb zc zd : AV} {Q2 : Hp → Prop} {QX2 QX : String → Hp → Prop} {Q9 : Hp → Prop} (F : Fx X K cc own ret d U true) (hd : decode cc pc = .ok (.invokevirtual idx, 3)) (hl9 : MLV own idx y bc mL ry t 4) (hk : kd q = .inl t) (hm : inB q) (hc : CxV d2 U2 y bc mL ry [aR q, za, zb, zc, zd] σ Q2 QX2) (hst : stW st ≤ 8) (hdd : d2 + 1 ≤ d) (hu : u + U2 ≤ U) (hx2 : ∀ (E : String) (σ' : Hp), QX2 E σ' → QX E σ') (k : ∀ (σ' : Hp), Q2 σ' → AW X K (pc + 3) lv st σ' (u + U2) (XV X K U Q9 QX)) : AW X K pc lv (zd :: zc :: zb :: za :: aR q :: st) σ u (XV X K U Q9 QX) := by
  obtain ⟨p, l, e, R, s, m, args, below, meth, c⟩ := X
  obtain ⟨g, cy, A, nL, ρ, L⟩ := K
  obtain ⟨hx, hb, hml, hown, hts, hK, hnd, hD, hA, hlk, hret, hR, htr, hZ, hE⟩ := F
  subst hR
  obtain ⟨hE1, rfl⟩ := hE
  intro H locs ls hP hS hl
  obtain ⟨⟨rr, hr1, hr2⟩, -⟩ := id hl9
  obtain ⟨i, hi, hi2⟩ := ws_at (ρ := ρ) (cy := cy) (σ := σ) (memL (by rw [hk]; intro z; cases z; exact absurd (vw_lt hr1) (by decide)) hm)
  rw [ent_obj hk] at hi2
  have hf9 : ∀ q, Aof ρ Lall H.size q → A q := fun q h => h.elim (fun ⟨i, hi, he⟩ => he ▸ wsA_D hD i hi) (fun h => hA q (Nat.le_trans hS.1 h))
  have hM := hc l g cy ρ H.size htr
  refine vx_callv (vx_runV (As := [za, zb, zc, zd].map (cv ρ)) (rest := st.map (cv ρ)) ⟨hx, hb, hml, hown, hts⟩ hM (hl9.cw hts hdd) ⟨WRs_blind, hr2 ▸ va_recv hK hP hr1 hi2, fun V hV hW => ⟨rfl, WRs_call hK hD hA hZ hP hS hV hW⟩⟩ rfl rfl hl.1 rfl (lv_room (Nat.le_trans (st_cat st) hst)) hd ⟨hu, by show 64 * u + 64 * U2 ≤ 64 * U; omega⟩) hS (fun q _ h => hf9 q h) hf9 (fun q _ h => hf9 q h) (fun E ce q9 u9 t9 H1 locs1 ht hvm _ hB hz1 hk1 hS1 hce hv hcl => ?_) (fun u9 t9 H1 locs1 ht hvm hw hB hz1 hk1 hS1 => ?_)
  · obtain ⟨hB0, hB1, hB2⟩ := hB
    refine vx_out (fun x hx => absurd (hE1 rfl x hx) id) hlk hce hv hcl (fun t' ht' hvm' => ⟨u9, trivial, ⟨hx2 E u9 hB0, ?_, va_K.moved hvm' hK⟩, hS1.F ht'⟩) hS1.2.2 hu (by show 64 * u + 64 * U2 ≤ 64 * U; omega)
    rw [ht', ← ht]
    exact hB1
  · have hP1 : va_P g vwCl (wsOf ρ cy Lall u9) H1 := by rw [← ht]; exact hB.1
    rw [show 64 * u + 64 * U2 = 64 * (u + U2) by omega]
    exact k u9 hw H1 locs1 ls hP1 hS1 hl
theorem aw_callVI5 {za zb zc zd ze : AV} {Q2 : Int → Hp → Prop} (F : Fx X K cc own ret d U tb) (hd : decode cc pc = .ok (.invokevirtual idx, 3)) (hl9 : MLV own idx y bc mL ry t 5) (hk : kd q = .inl t) (hm : inB q) (hc : CtI d2 0 y bc mL ry [aR q, za, zb, zc, zd, ze] σ Q2) (hst : stW st ≤ 8) (hdd : d2 + 1 ≤ d) (hu : u ≤ U) (k : ∀ (v : Int) (σ' : Hp), Q2 v σ' → AW X K (pc + 3) lv (aI v :: st) σ' u Q) : AW X K pc lv (ze :: zd :: zc :: zb :: za :: aR q :: st) σ u Q := by
  obtain ⟨p, l, e, R, s, m, args, below, meth, c⟩ := X
  obtain ⟨g, cy, A, nL, ρ, L⟩ := K
  obtain ⟨hx, hb, hml, hown, hts, hK, hnd, hD, hA, hlk, hret, hR, htr, hZ, hE⟩ := F
  subst hR
  obtain ⟨hE1, rfl⟩ := hE
  intro H locs ls hP hS hl
  obtain ⟨⟨rr, hr1, hr2⟩, -⟩ := id hl9
  obtain ⟨i, hi, hi2⟩ := ws_at (ρ := ρ) (cy := cy) (σ := σ) (memL (by rw [hk]; intro z; cases z; exact absurd (vw_lt hr1) (by decide)) hm)
  rw [ent_obj hk] at hi2
  have hf9 : ∀ q, Aof ρ Lall H.size q → A q := fun q h => h.elim (fun ⟨i, hi, he⟩ => he ▸ wsA_D hD i hi) (fun h => hA q (Nat.le_trans hS.1 h))
  have hM := hc l g cy ρ H.size htr
  refine va_calli (va_runV (As := [za, zb, zc, zd, ze].map (cv ρ)) (rest := st.map (cv ρ)) ⟨hx, hb, hml, hown, hts⟩ hM (hl9.cw hts hdd) ⟨WRs_blind, hr2 ▸ va_recv hK hP hr1 hi2, fun V hV hW => ⟨rfl, WRs_call hK hD hA hZ hP hS hV hW⟩⟩ rfl rfl hl.1 rfl (lv_room (Nat.le_trans (st_cat st) hst)) hd ⟨hu, by show 64 * u + 64 * 0 ≤ 64 * U; omega⟩) hS (fun q _ h => hf9 q h) hf9 (fun v9 u9 t9 H1 locs1 ht hvm hw hB hz1 hk1 hS1 => ?_)
  obtain ⟨hw1, hw2⟩ := hw
  subst hw1
  have hP1 : va_P g vwCl (wsOf ρ cy Lall u9.2) H1 := by rw [← ht]; exact hB.1
  exact k u9.1 u9.2 hw2 H1 locs1 ls hP1 hS1 hl
theorem aw_pcallV5 {za zb zc zd ze : AV} {e9 : Int} (F : Fx X K cc own ret d U tb) (hd : decode cc pc = .ok (.invokevirtual idx, 3)) (hl9 : MLV own idx y bc mL ry t 5) (hk : kd q = .inl t) (hm : inB q) (hc : CtI d2 0 y bc mL ry [aR q, za, zb, zc, zd, ze] σ (PU σ e9)) (hst : stW st ≤ 8) (hdd : d2 + 1 ≤ d) (hu : u ≤ U) (k : AW X K (pc + 3) lv (aI e9 :: st) σ u Q) : AW X K pc lv (ze :: zd :: zc :: zb :: za :: aR q :: st) σ u Q :=
  aw_callVI5 F hd hl9 hk hm hc hst hdd hu (fun v9 s9 h => by obtain ⟨rfl, rfl⟩ := h; exact k)
theorem aw_xcallVII5 {za zb zc zd ze : AV} {Q2 : Int → Hp → Prop} {QX2 QX : String → Hp → Prop} {Q9 : Int → Hp → Prop} (F : Fx X K cc own ret d U true) (hd : decode cc pc = .ok (.invokevirtual idx, 3)) (hl9 : MLV own idx y bc mL ry t 5) (hk : kd q = .inl t) (hm : inB q) (hc : CxI d2 U2 y bc mL ry [aR q, za, zb, zc, zd, ze] σ Q2 QX2) (hst : stW st ≤ 8) (hdd : d2 + 1 ≤ d) (hu : u + U2 ≤ U) (hx2 : ∀ (E : String) (σ' : Hp), QX2 E σ' → QX E σ') (k : ∀ (v : Int) (σ' : Hp), Q2 v σ' → AW X K (pc + 3) lv (aI v :: st) σ' (u + U2) (XI X K U Q9 QX)) : AW X K pc lv (ze :: zd :: zc :: zb :: za :: aR q :: st) σ u (XI X K U Q9 QX) := by
  obtain ⟨p, l, e, R, s, m, args, below, meth, c⟩ := X
  obtain ⟨g, cy, A, nL, ρ, L⟩ := K
  obtain ⟨hx, hb, hml, hown, hts, hK, hnd, hD, hA, hlk, hret, hR, htr, hZ, hE⟩ := F
  subst hR
  obtain ⟨hE1, rfl⟩ := hE
  intro H locs ls hP hS hl
  obtain ⟨⟨rr, hr1, hr2⟩, -⟩ := id hl9
  obtain ⟨i, hi, hi2⟩ := ws_at (ρ := ρ) (cy := cy) (σ := σ) (memL (by rw [hk]; intro z; cases z; exact absurd (vw_lt hr1) (by decide)) hm)
  rw [ent_obj hk] at hi2
  have hf9 : ∀ q, Aof ρ Lall H.size q → A q := fun q h => h.elim (fun ⟨i, hi, he⟩ => he ▸ wsA_D hD i hi) (fun h => hA q (Nat.le_trans hS.1 h))
  have hM := hc l g cy ρ H.size htr
  refine vx_calli (vx_runV (As := [za, zb, zc, zd, ze].map (cv ρ)) (rest := st.map (cv ρ)) ⟨hx, hb, hml, hown, hts⟩ hM (hl9.cw hts hdd) ⟨WRs_blind, hr2 ▸ va_recv hK hP hr1 hi2, fun V hV hW => ⟨rfl, WRs_call hK hD hA hZ hP hS hV hW⟩⟩ rfl rfl hl.1 rfl (lv_room (Nat.le_trans (st_cat st) hst)) hd ⟨hu, by show 64 * u + 64 * U2 ≤ 64 * U; omega⟩) hS (fun q _ h => hf9 q h) hf9 (fun q _ h => hf9 q h) (fun E ce q9 u9 t9 H1 locs1 ht hvm _ hB hz1 hk1 hS1 hce hv hcl => ?_) (fun v9 u9 t9 H1 locs1 ht hvm hw hB hz1 hk1 hS1 => ?_)
  · obtain ⟨hB0, hB1, hB2⟩ := hB
    refine vx_out (fun x hx => absurd (hE1 rfl x hx) id) hlk hce hv hcl (fun t' ht' hvm' => ⟨u9, trivial, ⟨hx2 E u9 hB0, ?_, va_K.moved hvm' hK⟩, hS1.F ht'⟩) hS1.2.2 hu (by show 64 * u + 64 * U2 ≤ 64 * U; omega)
    rw [ht', ← ht]
    exact hB1
  · obtain ⟨hw1, hw2⟩ := hw
    subst hw1
    have hP1 : va_P g vwCl (wsOf ρ cy Lall u9.2) H1 := by rw [← ht]; exact hB.1
    rw [show 64 * u + 64 * U2 = 64 * (u + U2) by omega]
    exact k u9.1 u9.2 hw2 H1 locs1 ls hP1 hS1 hl
theorem aw_xcallVIV5 {za zb zc zd ze : AV} {Q2 : Int → Hp → Prop} {QX2 QX : String → Hp → Prop} {Q9 : Hp → Prop} (F : Fx X K cc own ret d U true) (hd : decode cc pc = .ok (.invokevirtual idx, 3)) (hl9 : MLV own idx y bc mL ry t 5) (hk : kd q = .inl t) (hm : inB q) (hc : CxI d2 U2 y bc mL ry [aR q, za, zb, zc, zd, ze] σ Q2 QX2) (hst : stW st ≤ 8) (hdd : d2 + 1 ≤ d) (hu : u + U2 ≤ U) (hx2 : ∀ (E : String) (σ' : Hp), QX2 E σ' → QX E σ') (k : ∀ (v : Int) (σ' : Hp), Q2 v σ' → AW X K (pc + 3) lv (aI v :: st) σ' (u + U2) (XV X K U Q9 QX)) : AW X K pc lv (ze :: zd :: zc :: zb :: za :: aR q :: st) σ u (XV X K U Q9 QX) := by
  obtain ⟨p, l, e, R, s, m, args, below, meth, c⟩ := X
  obtain ⟨g, cy, A, nL, ρ, L⟩ := K
  obtain ⟨hx, hb, hml, hown, hts, hK, hnd, hD, hA, hlk, hret, hR, htr, hZ, hE⟩ := F
  subst hR
  obtain ⟨hE1, rfl⟩ := hE
  intro H locs ls hP hS hl
  obtain ⟨⟨rr, hr1, hr2⟩, -⟩ := id hl9
  obtain ⟨i, hi, hi2⟩ := ws_at (ρ := ρ) (cy := cy) (σ := σ) (memL (by rw [hk]; intro z; cases z; exact absurd (vw_lt hr1) (by decide)) hm)
  rw [ent_obj hk] at hi2
  have hf9 : ∀ q, Aof ρ Lall H.size q → A q := fun q h => h.elim (fun ⟨i, hi, he⟩ => he ▸ wsA_D hD i hi) (fun h => hA q (Nat.le_trans hS.1 h))
  have hM := hc l g cy ρ H.size htr
  refine vx_calli (vx_runV (As := [za, zb, zc, zd, ze].map (cv ρ)) (rest := st.map (cv ρ)) ⟨hx, hb, hml, hown, hts⟩ hM (hl9.cw hts hdd) ⟨WRs_blind, hr2 ▸ va_recv hK hP hr1 hi2, fun V hV hW => ⟨rfl, WRs_call hK hD hA hZ hP hS hV hW⟩⟩ rfl rfl hl.1 rfl (lv_room (Nat.le_trans (st_cat st) hst)) hd ⟨hu, by show 64 * u + 64 * U2 ≤ 64 * U; omega⟩) hS (fun q _ h => hf9 q h) hf9 (fun q _ h => hf9 q h) (fun E ce q9 u9 t9 H1 locs1 ht hvm _ hB hz1 hk1 hS1 hce hv hcl => ?_) (fun v9 u9 t9 H1 locs1 ht hvm hw hB hz1 hk1 hS1 => ?_)
  · obtain ⟨hB0, hB1, hB2⟩ := hB
    refine vx_out (fun x hx => absurd (hE1 rfl x hx) id) hlk hce hv hcl (fun t' ht' hvm' => ⟨u9, trivial, ⟨hx2 E u9 hB0, ?_, va_K.moved hvm' hK⟩, hS1.F ht'⟩) hS1.2.2 hu (by show 64 * u + 64 * U2 ≤ 64 * U; omega)
    rw [ht', ← ht]
    exact hB1
  · obtain ⟨hw1, hw2⟩ := hw
    subst hw1
    have hP1 : va_P g vwCl (wsOf ρ cy Lall u9.2) H1 := by rw [← ht]; exact hB.1
    rw [show 64 * u + 64 * U2 = 64 * (u + U2) by omega]
    exact k u9.1 u9.2 hw2 H1 locs1 ls hP1 hS1 hl
theorem aw_callVV5 {za zb zc zd ze : AV} {Q2 : Hp → Prop} (F : Fx X K cc own ret d U tb) (hd : decode cc pc = .ok (.invokevirtual idx, 3)) (hl9 : MLV own idx y bc mL ry t 5) (hk : kd q = .inl t) (hm : inB q) (hc : CtV d2 0 y bc mL ry [aR q, za, zb, zc, zd, ze] σ Q2) (hst : stW st ≤ 8) (hdd : d2 + 1 ≤ d) (hu : u ≤ U) (k : ∀ (σ' : Hp), Q2 σ' → AW X K (pc + 3) lv st σ' u Q) : AW X K pc lv (ze :: zd :: zc :: zb :: za :: aR q :: st) σ u Q := by
  obtain ⟨p, l, e, R, s, m, args, below, meth, c⟩ := X
  obtain ⟨g, cy, A, nL, ρ, L⟩ := K
  obtain ⟨hx, hb, hml, hown, hts, hK, hnd, hD, hA, hlk, hret, hR, htr, hZ, hE⟩ := F
  subst hR
  obtain ⟨hE1, rfl⟩ := hE
  intro H locs ls hP hS hl
  obtain ⟨⟨rr, hr1, hr2⟩, -⟩ := id hl9
  obtain ⟨i, hi, hi2⟩ := ws_at (ρ := ρ) (cy := cy) (σ := σ) (memL (by rw [hk]; intro z; cases z; exact absurd (vw_lt hr1) (by decide)) hm)
  rw [ent_obj hk] at hi2
  have hf9 : ∀ q, Aof ρ Lall H.size q → A q := fun q h => h.elim (fun ⟨i, hi, he⟩ => he ▸ wsA_D hD i hi) (fun h => hA q (Nat.le_trans hS.1 h))
  have hM := hc l g cy ρ H.size htr
  refine va_callv (va_runV (As := [za, zb, zc, zd, ze].map (cv ρ)) (rest := st.map (cv ρ)) ⟨hx, hb, hml, hown, hts⟩ hM (hl9.cw hts hdd) ⟨WRs_blind, hr2 ▸ va_recv hK hP hr1 hi2, fun V hV hW => ⟨rfl, WRs_call hK hD hA hZ hP hS hV hW⟩⟩ rfl rfl hl.1 rfl (lv_room (Nat.le_trans (st_cat st) hst)) hd ⟨hu, by show 64 * u + 64 * 0 ≤ 64 * U; omega⟩) hS (fun q _ h => hf9 q h) hf9 (fun u9 t9 H1 locs1 ht hvm hw hB hz1 hk1 hS1 => ?_)
  have hP1 : va_P g vwCl (wsOf ρ cy Lall u9) H1 := by rw [← ht]; exact hB.1
  exact k u9 hw H1 locs1 ls hP1 hS1 hl
theorem aw_xcallVVI5 {za zb zc zd ze : AV} {Q2 : Hp → Prop} {QX2 QX : String → Hp → Prop} {Q9 : Int → Hp → Prop} (F : Fx X K cc own ret d U true) (hd : decode cc pc = .ok (.invokevirtual idx, 3)) (hl9 : MLV own idx y bc mL ry t 5) (hk : kd q = .inl t) (hm : inB q) (hc : CxV d2 U2 y bc mL ry [aR q, za, zb, zc, zd, ze] σ Q2 QX2) (hst : stW st ≤ 8) (hdd : d2 + 1 ≤ d) (hu : u + U2 ≤ U) (hx2 : ∀ (E : String) (σ' : Hp), QX2 E σ' → QX E σ') (k : ∀ (σ' : Hp), Q2 σ' → AW X K (pc + 3) lv st σ' (u + U2) (XI X K U Q9 QX)) : AW X K pc lv (ze :: zd :: zc :: zb :: za :: aR q :: st) σ u (XI X K U Q9 QX) := by
  obtain ⟨p, l, e, R, s, m, args, below, meth, c⟩ := X
  obtain ⟨g, cy, A, nL, ρ, L⟩ := K
  obtain ⟨hx, hb, hml, hown, hts, hK, hnd, hD, hA, hlk, hret, hR, htr, hZ, hE⟩ := F
  subst hR
  obtain ⟨hE1, rfl⟩ := hE
  intro H locs ls hP hS hl
  obtain ⟨⟨rr, hr1, hr2⟩, -⟩ := id hl9
  obtain ⟨i, hi, hi2⟩ := ws_at (ρ := ρ) (cy := cy) (σ := σ) (memL (by rw [hk]; intro z; cases z; exact absurd (vw_lt hr1) (by decide)) hm)
  rw [ent_obj hk] at hi2
  have hf9 : ∀ q, Aof ρ Lall H.size q → A q := fun q h => h.elim (fun ⟨i, hi, he⟩ => he ▸ wsA_D hD i hi) (fun h => hA q (Nat.le_trans hS.1 h))
  have hM := hc l g cy ρ H.size htr
  refine vx_callv (vx_runV (As := [za, zb, zc, zd, ze].map (cv ρ)) (rest := st.map (cv ρ)) ⟨hx, hb, hml, hown, hts⟩ hM (hl9.cw hts hdd) ⟨WRs_blind, hr2 ▸ va_recv hK hP hr1 hi2, fun V hV hW => ⟨rfl, WRs_call hK hD hA hZ hP hS hV hW⟩⟩ rfl rfl hl.1 rfl (lv_room (Nat.le_trans (st_cat st) hst)) hd ⟨hu, by show 64 * u + 64 * U2 ≤ 64 * U; omega⟩) hS (fun q _ h => hf9 q h) hf9 (fun q _ h => hf9 q h) (fun E ce q9 u9 t9 H1 locs1 ht hvm _ hB hz1 hk1 hS1 hce hv hcl => ?_) (fun u9 t9 H1 locs1 ht hvm hw hB hz1 hk1 hS1 => ?_)
  · obtain ⟨hB0, hB1, hB2⟩ := hB
    refine vx_out (fun x hx => absurd (hE1 rfl x hx) id) hlk hce hv hcl (fun t' ht' hvm' => ⟨u9, trivial, ⟨hx2 E u9 hB0, ?_, va_K.moved hvm' hK⟩, hS1.F ht'⟩) hS1.2.2 hu (by show 64 * u + 64 * U2 ≤ 64 * U; omega)
    rw [ht', ← ht]
    exact hB1
  · have hP1 : va_P g vwCl (wsOf ρ cy Lall u9) H1 := by rw [← ht]; exact hB.1
    rw [show 64 * u + 64 * U2 = 64 * (u + U2) by omega]
    exact k u9 hw H1 locs1 ls hP1 hS1 hl
theorem aw_xcallVVV5 {za zb zc zd ze : AV} {Q2 : Hp → Prop} {QX2 QX : String → Hp → Prop} {Q9 : Hp → Prop} (F : Fx X K cc own ret d U true) (hd : decode cc pc = .ok (.invokevirtual idx, 3)) (hl9 : MLV own idx y bc mL ry t 5) (hk : kd q = .inl t) (hm : inB q) (hc : CxV d2 U2 y bc mL ry [aR q, za, zb, zc, zd, ze] σ Q2 QX2) (hst : stW st ≤ 8) (hdd : d2 + 1 ≤ d) (hu : u + U2 ≤ U) (hx2 : ∀ (E : String) (σ' : Hp), QX2 E σ' → QX E σ') (k : ∀ (σ' : Hp), Q2 σ' → AW X K (pc + 3) lv st σ' (u + U2) (XV X K U Q9 QX)) : AW X K pc lv (ze :: zd :: zc :: zb :: za :: aR q :: st) σ u (XV X K U Q9 QX) := by
  obtain ⟨p, l, e, R, s, m, args, below, meth, c⟩ := X
  obtain ⟨g, cy, A, nL, ρ, L⟩ := K
  obtain ⟨hx, hb, hml, hown, hts, hK, hnd, hD, hA, hlk, hret, hR, htr, hZ, hE⟩ := F
  subst hR
  obtain ⟨hE1, rfl⟩ := hE
  intro H locs ls hP hS hl
  obtain ⟨⟨rr, hr1, hr2⟩, -⟩ := id hl9
  obtain ⟨i, hi, hi2⟩ := ws_at (ρ := ρ) (cy := cy) (σ := σ) (memL (by rw [hk]; intro z; cases z; exact absurd (vw_lt hr1) (by decide)) hm)
  rw [ent_obj hk] at hi2
  have hf9 : ∀ q, Aof ρ Lall H.size q → A q := fun q h => h.elim (fun ⟨i, hi, he⟩ => he ▸ wsA_D hD i hi) (fun h => hA q (Nat.le_trans hS.1 h))
  have hM := hc l g cy ρ H.size htr
  refine vx_callv (vx_runV (As := [za, zb, zc, zd, ze].map (cv ρ)) (rest := st.map (cv ρ)) ⟨hx, hb, hml, hown, hts⟩ hM (hl9.cw hts hdd) ⟨WRs_blind, hr2 ▸ va_recv hK hP hr1 hi2, fun V hV hW => ⟨rfl, WRs_call hK hD hA hZ hP hS hV hW⟩⟩ rfl rfl hl.1 rfl (lv_room (Nat.le_trans (st_cat st) hst)) hd ⟨hu, by show 64 * u + 64 * U2 ≤ 64 * U; omega⟩) hS (fun q _ h => hf9 q h) hf9 (fun q _ h => hf9 q h) (fun E ce q9 u9 t9 H1 locs1 ht hvm _ hB hz1 hk1 hS1 hce hv hcl => ?_) (fun u9 t9 H1 locs1 ht hvm hw hB hz1 hk1 hS1 => ?_)
  · obtain ⟨hB0, hB1, hB2⟩ := hB
    refine vx_out (fun x hx => absurd (hE1 rfl x hx) id) hlk hce hv hcl (fun t' ht' hvm' => ⟨u9, trivial, ⟨hx2 E u9 hB0, ?_, va_K.moved hvm' hK⟩, hS1.F ht'⟩) hS1.2.2 hu (by show 64 * u + 64 * U2 ≤ 64 * U; omega)
    rw [ht', ← ht]
    exact hB1
  · have hP1 : va_P g vwCl (wsOf ρ cy Lall u9) H1 := by rw [← ht]; exact hB.1
    rw [show 64 * u + 64 * U2 = 64 * (u + U2) by omega]
    exact k u9 hw H1 locs1 ls hP1 hS1 hl
theorem aw_callVI6 {za zb zc zd ze zf : AV} {Q2 : Int → Hp → Prop} (F : Fx X K cc own ret d U tb) (hd : decode cc pc = .ok (.invokevirtual idx, 3)) (hl9 : MLV own idx y bc mL ry t 6) (hk : kd q = .inl t) (hm : inB q) (hc : CtI d2 0 y bc mL ry [aR q, za, zb, zc, zd, ze, zf] σ Q2) (hst : stW st ≤ 8) (hdd : d2 + 1 ≤ d) (hu : u ≤ U) (k : ∀ (v : Int) (σ' : Hp), Q2 v σ' → AW X K (pc + 3) lv (aI v :: st) σ' u Q) : AW X K pc lv (zf :: ze :: zd :: zc :: zb :: za :: aR q :: st) σ u Q := by
  obtain ⟨p, l, e, R, s, m, args, below, meth, c⟩ := X
  obtain ⟨g, cy, A, nL, ρ, L⟩ := K
  obtain ⟨hx, hb, hml, hown, hts, hK, hnd, hD, hA, hlk, hret, hR, htr, hZ, hE⟩ := F
  subst hR
  obtain ⟨hE1, rfl⟩ := hE
  intro H locs ls hP hS hl
  obtain ⟨⟨rr, hr1, hr2⟩, -⟩ := id hl9
  obtain ⟨i, hi, hi2⟩ := ws_at (ρ := ρ) (cy := cy) (σ := σ) (memL (by rw [hk]; intro z; cases z; exact absurd (vw_lt hr1) (by decide)) hm)
  rw [ent_obj hk] at hi2
  have hf9 : ∀ q, Aof ρ Lall H.size q → A q := fun q h => h.elim (fun ⟨i, hi, he⟩ => he ▸ wsA_D hD i hi) (fun h => hA q (Nat.le_trans hS.1 h))
  have hM := hc l g cy ρ H.size htr
  refine va_calli (va_runV (As := [za, zb, zc, zd, ze, zf].map (cv ρ)) (rest := st.map (cv ρ)) ⟨hx, hb, hml, hown, hts⟩ hM (hl9.cw hts hdd) ⟨WRs_blind, hr2 ▸ va_recv hK hP hr1 hi2, fun V hV hW => ⟨rfl, WRs_call hK hD hA hZ hP hS hV hW⟩⟩ rfl rfl hl.1 rfl (lv_room (Nat.le_trans (st_cat st) hst)) hd ⟨hu, by show 64 * u + 64 * 0 ≤ 64 * U; omega⟩) hS (fun q _ h => hf9 q h) hf9 (fun v9 u9 t9 H1 locs1 ht hvm hw hB hz1 hk1 hS1 => ?_)
  obtain ⟨hw1, hw2⟩ := hw
  subst hw1
  have hP1 : va_P g vwCl (wsOf ρ cy Lall u9.2) H1 := by rw [← ht]; exact hB.1
  exact k u9.1 u9.2 hw2 H1 locs1 ls hP1 hS1 hl
theorem aw_pcallV6 {za zb zc zd ze zf : AV} {e9 : Int} (F : Fx X K cc own ret d U tb) (hd : decode cc pc = .ok (.invokevirtual idx, 3)) (hl9 : MLV own idx y bc mL ry t 6) (hk : kd q = .inl t) (hm : inB q) (hc : CtI d2 0 y bc mL ry [aR q, za, zb, zc, zd, ze, zf] σ (PU σ e9)) (hst : stW st ≤ 8) (hdd : d2 + 1 ≤ d) (hu : u ≤ U) (k : AW X K (pc + 3) lv (aI e9 :: st) σ u Q) : AW X K pc lv (zf :: ze :: zd :: zc :: zb :: za :: aR q :: st) σ u Q :=
  aw_callVI6 F hd hl9 hk hm hc hst hdd hu (fun v9 s9 h => by obtain ⟨rfl, rfl⟩ := h; exact k)
theorem aw_xcallVII6 {za zb zc zd ze zf : AV} {Q2 : Int → Hp → Prop} {QX2 QX : String → Hp → Prop} {Q9 : Int → Hp → Prop} (F : Fx X K cc own ret d U true) (hd : decode cc pc = .ok (.invokevirtual idx, 3)) (hl9 : MLV own idx y bc mL ry t 6) (hk : kd q = .inl t) (hm : inB q) (hc : CxI d2 U2 y bc mL ry [aR q, za, zb, zc, zd, ze, zf] σ Q2 QX2) (hst : stW st ≤ 8) (hdd : d2 + 1 ≤ d) (hu : u + U2 ≤ U) (hx2 : ∀ (E : String) (σ' : Hp), QX2 E σ' → QX E σ') (k : ∀ (v : Int) (σ' : Hp), Q2 v σ' → AW X K (pc + 3) lv (aI v :: st) σ' (u + U2) (XI X K U Q9 QX)) : AW X K pc lv (zf :: ze :: zd :: zc :: zb :: za :: aR q :: st) σ u (XI X K U Q9 QX) := by
  obtain ⟨p, l, e, R, s, m, args, below, meth, c⟩ := X
  obtain ⟨g, cy, A, nL, ρ, L⟩ := K
  obtain ⟨hx, hb, hml, hown, hts, hK, hnd, hD, hA, hlk, hret, hR, htr, hZ, hE⟩ := F
  subst hR
  obtain ⟨hE1, rfl⟩ := hE
  intro H locs ls hP hS hl
  obtain ⟨⟨rr, hr1, hr2⟩, -⟩ := id hl9
  obtain ⟨i, hi, hi2⟩ := ws_at (ρ := ρ) (cy := cy) (σ := σ) (memL (by rw [hk]; intro z; cases z; exact absurd (vw_lt hr1) (by decide)) hm)
  rw [ent_obj hk] at hi2
  have hf9 : ∀ q, Aof ρ Lall H.size q → A q := fun q h => h.elim (fun ⟨i, hi, he⟩ => he ▸ wsA_D hD i hi) (fun h => hA q (Nat.le_trans hS.1 h))
  have hM := hc l g cy ρ H.size htr
  refine vx_calli (vx_runV (As := [za, zb, zc, zd, ze, zf].map (cv ρ)) (rest := st.map (cv ρ)) ⟨hx, hb, hml, hown, hts⟩ hM (hl9.cw hts hdd) ⟨WRs_blind, hr2 ▸ va_recv hK hP hr1 hi2, fun V hV hW => ⟨rfl, WRs_call hK hD hA hZ hP hS hV hW⟩⟩ rfl rfl hl.1 rfl (lv_room (Nat.le_trans (st_cat st) hst)) hd ⟨hu, by show 64 * u + 64 * U2 ≤ 64 * U; omega⟩) hS (fun q _ h => hf9 q h) hf9 (fun q _ h => hf9 q h) (fun E ce q9 u9 t9 H1 locs1 ht hvm _ hB hz1 hk1 hS1 hce hv hcl => ?_) (fun v9 u9 t9 H1 locs1 ht hvm hw hB hz1 hk1 hS1 => ?_)
  · obtain ⟨hB0, hB1, hB2⟩ := hB
    refine vx_out (fun x hx => absurd (hE1 rfl x hx) id) hlk hce hv hcl (fun t' ht' hvm' => ⟨u9, trivial, ⟨hx2 E u9 hB0, ?_, va_K.moved hvm' hK⟩, hS1.F ht'⟩) hS1.2.2 hu (by show 64 * u + 64 * U2 ≤ 64 * U; omega)
    rw [ht', ← ht]
    exact hB1
  · obtain ⟨hw1, hw2⟩ := hw
    subst hw1
    have hP1 : va_P g vwCl (wsOf ρ cy Lall u9.2) H1 := by rw [← ht]; exact hB.1
    rw [show 64 * u + 64 * U2 = 64 * (u + U2) by omega]
    exact k u9.1 u9.2 hw2 H1 locs1 ls hP1 hS1 hl
theorem aw_xcallVIV6 {za zb zc zd ze zf : AV} {Q2 : Int → Hp → Prop} {QX2 QX : String → Hp → Prop} {Q9 : Hp → Prop} (F : Fx X K cc own ret d U true) (hd : decode cc pc = .ok (.invokevirtual idx, 3)) (hl9 : MLV own idx y bc mL ry t 6) (hk : kd q = .inl t) (hm : inB q) (hc : CxI d2 U2 y bc mL ry [aR q, za, zb, zc, zd, ze, zf] σ Q2 QX2) (hst : stW st ≤ 8) (hdd : d2 + 1 ≤ d) (hu : u + U2 ≤ U) (hx2 : ∀ (E : String) (σ' : Hp), QX2 E σ' → QX E σ') (k : ∀ (v : Int) (σ' : Hp), Q2 v σ' → AW X K (pc + 3) lv (aI v :: st) σ' (u + U2) (XV X K U Q9 QX)) : AW X K pc lv (zf :: ze :: zd :: zc :: zb :: za :: aR q :: st) σ u (XV X K U Q9 QX) := by
  obtain ⟨p, l, e, R, s, m, args, below, meth, c⟩ := X
  obtain ⟨g, cy, A, nL, ρ, L⟩ := K
  obtain ⟨hx, hb, hml, hown, hts, hK, hnd, hD, hA, hlk, hret, hR, htr, hZ, hE⟩ := F
  subst hR
  obtain ⟨hE1, rfl⟩ := hE
  intro H locs ls hP hS hl
  obtain ⟨⟨rr, hr1, hr2⟩, -⟩ := id hl9
  obtain ⟨i, hi, hi2⟩ := ws_at (ρ := ρ) (cy := cy) (σ := σ) (memL (by rw [hk]; intro z; cases z; exact absurd (vw_lt hr1) (by decide)) hm)
  rw [ent_obj hk] at hi2
  have hf9 : ∀ q, Aof ρ Lall H.size q → A q := fun q h => h.elim (fun ⟨i, hi, he⟩ => he ▸ wsA_D hD i hi) (fun h => hA q (Nat.le_trans hS.1 h))
  have hM := hc l g cy ρ H.size htr
  refine vx_calli (vx_runV (As := [za, zb, zc, zd, ze, zf].map (cv ρ)) (rest := st.map (cv ρ)) ⟨hx, hb, hml, hown, hts⟩ hM (hl9.cw hts hdd) ⟨WRs_blind, hr2 ▸ va_recv hK hP hr1 hi2, fun V hV hW => ⟨rfl, WRs_call hK hD hA hZ hP hS hV hW⟩⟩ rfl rfl hl.1 rfl (lv_room (Nat.le_trans (st_cat st) hst)) hd ⟨hu, by show 64 * u + 64 * U2 ≤ 64 * U; omega⟩) hS (fun q _ h => hf9 q h) hf9 (fun q _ h => hf9 q h) (fun E ce q9 u9 t9 H1 locs1 ht hvm _ hB hz1 hk1 hS1 hce hv hcl => ?_) (fun v9 u9 t9 H1 locs1 ht hvm hw hB hz1 hk1 hS1 => ?_)
  · obtain ⟨hB0, hB1, hB2⟩ := hB
    refine vx_out (fun x hx => absurd (hE1 rfl x hx) id) hlk hce hv hcl (fun t' ht' hvm' => ⟨u9, trivial, ⟨hx2 E u9 hB0, ?_, va_K.moved hvm' hK⟩, hS1.F ht'⟩) hS1.2.2 hu (by show 64 * u + 64 * U2 ≤ 64 * U; omega)
    rw [ht', ← ht]
    exact hB1
  · obtain ⟨hw1, hw2⟩ := hw
    subst hw1
    have hP1 : va_P g vwCl (wsOf ρ cy Lall u9.2) H1 := by rw [← ht]; exact hB.1
    rw [show 64 * u + 64 * U2 = 64 * (u + U2) by omega]
    exact k u9.1 u9.2 hw2 H1 locs1 ls hP1 hS1 hl
theorem aw_callVV6 {za zb zc zd ze zf : AV} {Q2 : Hp → Prop} (F : Fx X K cc own ret d U tb) (hd : decode cc pc = .ok (.invokevirtual idx, 3)) (hl9 : MLV own idx y bc mL ry t 6) (hk : kd q = .inl t) (hm : inB q) (hc : CtV d2 0 y bc mL ry [aR q, za, zb, zc, zd, ze, zf] σ Q2) (hst : stW st ≤ 8) (hdd : d2 + 1 ≤ d) (hu : u ≤ U) (k : ∀ (σ' : Hp), Q2 σ' → AW X K (pc + 3) lv st σ' u Q) : AW X K pc lv (zf :: ze :: zd :: zc :: zb :: za :: aR q :: st) σ u Q := by
  obtain ⟨p, l, e, R, s, m, args, below, meth, c⟩ := X
  obtain ⟨g, cy, A, nL, ρ, L⟩ := K
  obtain ⟨hx, hb, hml, hown, hts, hK, hnd, hD, hA, hlk, hret, hR, htr, hZ, hE⟩ := F
  subst hR
  obtain ⟨hE1, rfl⟩ := hE
  intro H locs ls hP hS hl
  obtain ⟨⟨rr, hr1, hr2⟩, -⟩ := id hl9
  obtain ⟨i, hi, hi2⟩ := ws_at (ρ := ρ) (cy := cy) (σ := σ) (memL (by rw [hk]; intro z; cases z; exact absurd (vw_lt hr1) (by decide)) hm)
  rw [ent_obj hk] at hi2
  have hf9 : ∀ q, Aof ρ Lall H.size q → A q := fun q h => h.elim (fun ⟨i, hi, he⟩ => he ▸ wsA_D hD i hi) (fun h => hA q (Nat.le_trans hS.1 h))
  have hM := hc l g cy ρ H.size htr
  refine va_callv (va_runV (As := [za, zb, zc, zd, ze, zf].map (cv ρ)) (rest := st.map (cv ρ)) ⟨hx, hb, hml, hown, hts⟩ hM (hl9.cw hts hdd) ⟨WRs_blind, hr2 ▸ va_recv hK hP hr1 hi2, fun V hV hW => ⟨rfl, WRs_call hK hD hA hZ hP hS hV hW⟩⟩ rfl rfl hl.1 rfl (lv_room (Nat.le_trans (st_cat st) hst)) hd ⟨hu, by show 64 * u + 64 * 0 ≤ 64 * U; omega⟩) hS (fun q _ h => hf9 q h) hf9 (fun u9 t9 H1 locs1 ht hvm hw hB hz1 hk1 hS1 => ?_)
  have hP1 : va_P g vwCl (wsOf ρ cy Lall u9) H1 := by rw [← ht]; exact hB.1
  exact k u9 hw H1 locs1 ls hP1 hS1 hl
theorem aw_xcallVVI6 {za zb zc zd ze zf : AV} {Q2 : Hp → Prop} {QX2 QX : String → Hp → Prop} {Q9 : Int → Hp → Prop} (F : Fx X K cc own ret d U true) (hd : decode cc pc = .ok (.invokevirtual idx, 3)) (hl9 : MLV own idx y bc mL ry t 6) (hk : kd q = .inl t) (hm : inB q) (hc : CxV d2 U2 y bc mL ry [aR q, za, zb, zc, zd, ze, zf] σ Q2 QX2) (hst : stW st ≤ 8) (hdd : d2 + 1 ≤ d) (hu : u + U2 ≤ U) (hx2 : ∀ (E : String) (σ' : Hp), QX2 E σ' → QX E σ') (k : ∀ (σ' : Hp), Q2 σ' → AW X K (pc + 3) lv st σ' (u + U2) (XI X K U Q9 QX)) : AW X K pc lv (zf :: ze :: zd :: zc :: zb :: za :: aR q :: st) σ u (XI X K U Q9 QX) := by
  obtain ⟨p, l, e, R, s, m, args, below, meth, c⟩ := X
  obtain ⟨g, cy, A, nL, ρ, L⟩ := K
  obtain ⟨hx, hb, hml, hown, hts, hK, hnd, hD, hA, hlk, hret, hR, htr, hZ, hE⟩ := F
  subst hR
  obtain ⟨hE1, rfl⟩ := hE
  intro H locs ls hP hS hl
  obtain ⟨⟨rr, hr1, hr2⟩, -⟩ := id hl9
  obtain ⟨i, hi, hi2⟩ := ws_at (ρ := ρ) (cy := cy) (σ := σ) (memL (by rw [hk]; intro z; cases z; exact absurd (vw_lt hr1) (by decide)) hm)
  rw [ent_obj hk] at hi2
  have hf9 : ∀ q, Aof ρ Lall H.size q → A q := fun q h => h.elim (fun ⟨i, hi, he⟩ => he ▸ wsA_D hD i hi) (fun h => hA q (Nat.le_trans hS.1 h))
  have hM := hc l g cy ρ H.size htr
  refine vx_callv (vx_runV (As := [za, zb, zc, zd, ze, zf].map (cv ρ)) (rest := st.map (cv ρ)) ⟨hx, hb, hml, hown, hts⟩ hM (hl9.cw hts hdd) ⟨WRs_blind, hr2 ▸ va_recv hK hP hr1 hi2, fun V hV hW => ⟨rfl, WRs_call hK hD hA hZ hP hS hV hW⟩⟩ rfl rfl hl.1 rfl (lv_room (Nat.le_trans (st_cat st) hst)) hd ⟨hu, by show 64 * u + 64 * U2 ≤ 64 * U; omega⟩) hS (fun q _ h => hf9 q h) hf9 (fun q _ h => hf9 q h) (fun E ce q9 u9 t9 H1 locs1 ht hvm _ hB hz1 hk1 hS1 hce hv hcl => ?_) (fun u9 t9 H1 locs1 ht hvm hw hB hz1 hk1 hS1 => ?_)
  · obtain ⟨hB0, hB1, hB2⟩ := hB
    refine vx_out (fun x hx => absurd (hE1 rfl x hx) id) hlk hce hv hcl (fun t' ht' hvm' => ⟨u9, trivial, ⟨hx2 E u9 hB0, ?_, va_K.moved hvm' hK⟩, hS1.F ht'⟩) hS1.2.2 hu (by show 64 * u + 64 * U2 ≤ 64 * U; omega)
    rw [ht', ← ht]
    exact hB1
  · have hP1 : va_P g vwCl (wsOf ρ cy Lall u9) H1 := by rw [← ht]; exact hB.1
    rw [show 64 * u + 64 * U2 = 64 * (u + U2) by omega]
    exact k u9 hw H1 locs1 ls hP1 hS1 hl
theorem aw_xcallVVV6 {za zb zc zd ze zf : AV} {Q2 : Hp → Prop} {QX2 QX : String → Hp → Prop} {Q9 : Hp → Prop} (F : Fx X K cc own ret d U true) (hd : decode cc pc = .ok (.invokevirtual idx, 3)) (hl9 : MLV own idx y bc mL ry t 6) (hk : kd q = .inl t) (hm : inB q) (hc : CxV d2 U2 y bc mL ry [aR q, za, zb, zc, zd, ze, zf] σ Q2 QX2) (hst : stW st ≤ 8) (hdd : d2 + 1 ≤ d) (hu : u + U2 ≤ U) (hx2 : ∀ (E : String) (σ' : Hp), QX2 E σ' → QX E σ') (k : ∀ (σ' : Hp), Q2 σ' → AW X K (pc + 3) lv st σ' (u + U2) (XV X K U Q9 QX)) : AW X K pc lv (zf :: ze :: zd :: zc :: zb :: za :: aR q :: st) σ u (XV X K U Q9 QX) := by
  obtain ⟨p, l, e, R, s, m, args, below, meth, c⟩ := X
  obtain ⟨g, cy, A, nL, ρ, L⟩ := K
  obtain ⟨hx, hb, hml, hown, hts, hK, hnd, hD, hA, hlk, hret, hR, htr, hZ, hE⟩ := F
  subst hR
  obtain ⟨hE1, rfl⟩ := hE
  intro H locs ls hP hS hl
  obtain ⟨⟨rr, hr1, hr2⟩, -⟩ := id hl9
  obtain ⟨i, hi, hi2⟩ := ws_at (ρ := ρ) (cy := cy) (σ := σ) (memL (by rw [hk]; intro z; cases z; exact absurd (vw_lt hr1) (by decide)) hm)
  rw [ent_obj hk] at hi2
  have hf9 : ∀ q, Aof ρ Lall H.size q → A q := fun q h => h.elim (fun ⟨i, hi, he⟩ => he ▸ wsA_D hD i hi) (fun h => hA q (Nat.le_trans hS.1 h))
  have hM := hc l g cy ρ H.size htr
  refine vx_callv (vx_runV (As := [za, zb, zc, zd, ze, zf].map (cv ρ)) (rest := st.map (cv ρ)) ⟨hx, hb, hml, hown, hts⟩ hM (hl9.cw hts hdd) ⟨WRs_blind, hr2 ▸ va_recv hK hP hr1 hi2, fun V hV hW => ⟨rfl, WRs_call hK hD hA hZ hP hS hV hW⟩⟩ rfl rfl hl.1 rfl (lv_room (Nat.le_trans (st_cat st) hst)) hd ⟨hu, by show 64 * u + 64 * U2 ≤ 64 * U; omega⟩) hS (fun q _ h => hf9 q h) hf9 (fun q _ h => hf9 q h) (fun E ce q9 u9 t9 H1 locs1 ht hvm _ hB hz1 hk1 hS1 hce hv hcl => ?_) (fun u9 t9 H1 locs1 ht hvm hw hB hz1 hk1 hS1 => ?_)
  · obtain ⟨hB0, hB1, hB2⟩ := hB
    refine vx_out (fun x hx => absurd (hE1 rfl x hx) id) hlk hce hv hcl (fun t' ht' hvm' => ⟨u9, trivial, ⟨hx2 E u9 hB0, ?_, va_K.moved hvm' hK⟩, hS1.F ht'⟩) hS1.2.2 hu (by show 64 * u + 64 * U2 ≤ 64 * U; omega)
    rw [ht', ← ht]
    exact hB1
  · have hP1 : va_P g vwCl (wsOf ρ cy Lall u9) H1 := by rw [← ht]; exact hB.1
    rw [show 64 * u + 64 * U2 = 64 * (u + U2) by omega]
    exact k u9 hw H1 locs1 ls hP1 hS1 hl
theorem aw_callSI0 {Q2 : Int → Hp → Prop} (F : Fx X K cc own ret d U tb) (hd : decode cc pc = .ok (.invokestatic idx, 3)) (hl9 : MLS own idx y bc mL ry 0) (hc : CtI d2 0 y bc mL ry [] σ Q2) (hst : stW st ≤ 8) (hdd : d2 + 1 ≤ d) (hu : u ≤ U) (k : ∀ (v : Int) (σ' : Hp), Q2 v σ' → AW X K (pc + 3) lv (aI v :: st) σ' u Q) : AW X K pc lv (st) σ u Q := by
  obtain ⟨p, l, e, R, s, m, args, below, meth, c⟩ := X
  obtain ⟨g, cy, A, nL, ρ, L⟩ := K
  obtain ⟨hx, hb, hml, hown, hts, hK, hnd, hD, hA, hlk, hret, hR, htr, hZ, hE⟩ := F
  subst hR
  obtain ⟨hE1, rfl⟩ := hE
  intro H locs ls hP hS hl
  have hf9 : ∀ q, Aof ρ Lall H.size q → A q := fun q h => h.elim (fun ⟨i, hi, he⟩ => he ▸ wsA_D hD i hi) (fun h => hA q (Nat.le_trans hS.1 h))
  have hM := hc l g cy ρ H.size htr
  refine va_calli (va_runS (As := [].map (cv ρ)) (rest := st.map (cv ρ)) ⟨hx, hb, hml, hown, hts⟩ hM (hl9.cw hts hdd) ⟨WRs_blind, fun V hV hW => ⟨rfl, WRs_call hK hD hA hZ hP hS hV hW⟩⟩ rfl rfl hl.1 rfl (lv_room (Nat.le_trans (st_cat st) hst)) hd ⟨hu, by show 64 * u + 64 * 0 ≤ 64 * U; omega⟩) hS (fun q _ h => hf9 q h) hf9 (fun v9 u9 t9 H1 locs1 ht hvm hw hB hz1 hk1 hS1 => ?_)
  obtain ⟨hw1, hw2⟩ := hw
  subst hw1
  have hP1 : va_P g vwCl (wsOf ρ cy Lall u9.2) H1 := by rw [← ht]; exact hB.1
  exact k u9.1 u9.2 hw2 H1 locs1 ls hP1 hS1 hl
theorem aw_pcallS0 {e9 : Int} (F : Fx X K cc own ret d U tb) (hd : decode cc pc = .ok (.invokestatic idx, 3)) (hl9 : MLS own idx y bc mL ry 0) (hc : CtI d2 0 y bc mL ry [] σ (PU σ e9)) (hst : stW st ≤ 8) (hdd : d2 + 1 ≤ d) (hu : u ≤ U) (k : AW X K (pc + 3) lv (aI e9 :: st) σ u Q) : AW X K pc lv (st) σ u Q :=
  aw_callSI0 F hd hl9 hc hst hdd hu (fun v9 s9 h => by obtain ⟨rfl, rfl⟩ := h; exact k)
theorem aw_xcallSII0 {Q2 : Int → Hp → Prop} {QX2 QX : String → Hp → Prop} {Q9 : Int → Hp → Prop} (F : Fx X K cc own ret d U true) (hd : decode cc pc = .ok (.invokestatic idx, 3)) (hl9 : MLS own idx y bc mL ry 0) (hc : CxI d2 U2 y bc mL ry [] σ Q2 QX2) (hst : stW st ≤ 8) (hdd : d2 + 1 ≤ d) (hu : u + U2 ≤ U) (hx2 : ∀ (E : String) (σ' : Hp), QX2 E σ' → QX E σ') (k : ∀ (v : Int) (σ' : Hp), Q2 v σ' → AW X K (pc + 3) lv (aI v :: st) σ' (u + U2) (XI X K U Q9 QX)) : AW X K pc lv (st) σ u (XI X K U Q9 QX) := by
  obtain ⟨p, l, e, R, s, m, args, below, meth, c⟩ := X
  obtain ⟨g, cy, A, nL, ρ, L⟩ := K
  obtain ⟨hx, hb, hml, hown, hts, hK, hnd, hD, hA, hlk, hret, hR, htr, hZ, hE⟩ := F
  subst hR
  obtain ⟨hE1, rfl⟩ := hE
  intro H locs ls hP hS hl
  have hf9 : ∀ q, Aof ρ Lall H.size q → A q := fun q h => h.elim (fun ⟨i, hi, he⟩ => he ▸ wsA_D hD i hi) (fun h => hA q (Nat.le_trans hS.1 h))
  have hM := hc l g cy ρ H.size htr
  refine vx_calli (vx_runS (As := [].map (cv ρ)) (rest := st.map (cv ρ)) ⟨hx, hb, hml, hown, hts⟩ hM (hl9.cw hts hdd) ⟨WRs_blind, fun V hV hW => ⟨rfl, WRs_call hK hD hA hZ hP hS hV hW⟩⟩ rfl rfl hl.1 rfl (lv_room (Nat.le_trans (st_cat st) hst)) hd ⟨hu, by show 64 * u + 64 * U2 ≤ 64 * U; omega⟩) hS (fun q _ h => hf9 q h) hf9 (fun q _ h => hf9 q h) (fun E ce q9 u9 t9 H1 locs1 ht hvm _ hB hz1 hk1 hS1 hce hv hcl => ?_) (fun v9 u9 t9 H1 locs1 ht hvm hw hB hz1 hk1 hS1 => ?_)
  · obtain ⟨hB0, hB1, hB2⟩ := hB
    refine vx_out (fun x hx => absurd (hE1 rfl x hx) id) hlk hce hv hcl (fun t' ht' hvm' => ⟨u9, trivial, ⟨hx2 E u9 hB0, ?_, va_K.moved hvm' hK⟩, hS1.F ht'⟩) hS1.2.2 hu (by show 64 * u + 64 * U2 ≤ 64 * U; omega)
    rw [ht', ← ht]
    exact hB1
  · obtain ⟨hw1, hw2⟩ := hw
    subst hw1
    have hP1 : va_P g vwCl (wsOf ρ cy Lall u9.2) H1 := by rw [← ht]; exact hB.1
    rw [show 64 * u + 64 * U2 = 64 * (u + U2) by omega]
    exact k u9.1 u9.2 hw2 H1 locs1 ls hP1 hS1 hl
theorem aw_xcallSIV0 {Q2 : Int → Hp → Prop} {QX2 QX : String → Hp → Prop} {Q9 : Hp → Prop} (F : Fx X K cc own ret d U true) (hd : decode cc pc = .ok (.invokestatic idx, 3)) (hl9 : MLS own idx y bc mL ry 0) (hc : CxI d2 U2 y bc mL ry [] σ Q2 QX2) (hst : stW st ≤ 8) (hdd : d2 + 1 ≤ d) (hu : u + U2 ≤ U) (hx2 : ∀ (E : String) (σ' : Hp), QX2 E σ' → QX E σ') (k : ∀ (v : Int) (σ' : Hp), Q2 v σ' → AW X K (pc + 3) lv (aI v :: st) σ' (u + U2) (XV X K U Q9 QX)) : AW X K pc lv (st) σ u (XV X K U Q9 QX) := by
  obtain ⟨p, l, e, R, s, m, args, below, meth, c⟩ := X
  obtain ⟨g, cy, A, nL, ρ, L⟩ := K
  obtain ⟨hx, hb, hml, hown, hts, hK, hnd, hD, hA, hlk, hret, hR, htr, hZ, hE⟩ := F
  subst hR
  obtain ⟨hE1, rfl⟩ := hE
  intro H locs ls hP hS hl
  have hf9 : ∀ q, Aof ρ Lall H.size q → A q := fun q h => h.elim (fun ⟨i, hi, he⟩ => he ▸ wsA_D hD i hi) (fun h => hA q (Nat.le_trans hS.1 h))
  have hM := hc l g cy ρ H.size htr
  refine vx_calli (vx_runS (As := [].map (cv ρ)) (rest := st.map (cv ρ)) ⟨hx, hb, hml, hown, hts⟩ hM (hl9.cw hts hdd) ⟨WRs_blind, fun V hV hW => ⟨rfl, WRs_call hK hD hA hZ hP hS hV hW⟩⟩ rfl rfl hl.1 rfl (lv_room (Nat.le_trans (st_cat st) hst)) hd ⟨hu, by show 64 * u + 64 * U2 ≤ 64 * U; omega⟩) hS (fun q _ h => hf9 q h) hf9 (fun q _ h => hf9 q h) (fun E ce q9 u9 t9 H1 locs1 ht hvm _ hB hz1 hk1 hS1 hce hv hcl => ?_) (fun v9 u9 t9 H1 locs1 ht hvm hw hB hz1 hk1 hS1 => ?_)
  · obtain ⟨hB0, hB1, hB2⟩ := hB
    refine vx_out (fun x hx => absurd (hE1 rfl x hx) id) hlk hce hv hcl (fun t' ht' hvm' => ⟨u9, trivial, ⟨hx2 E u9 hB0, ?_, va_K.moved hvm' hK⟩, hS1.F ht'⟩) hS1.2.2 hu (by show 64 * u + 64 * U2 ≤ 64 * U; omega)
    rw [ht', ← ht]
    exact hB1
  · obtain ⟨hw1, hw2⟩ := hw
    subst hw1
    have hP1 : va_P g vwCl (wsOf ρ cy Lall u9.2) H1 := by rw [← ht]; exact hB.1
    rw [show 64 * u + 64 * U2 = 64 * (u + U2) by omega]
    exact k u9.1 u9.2 hw2 H1 locs1 ls hP1 hS1 hl
theorem aw_callSV0 {Q2 : Hp → Prop} (F : Fx X K cc own ret d U tb) (hd : decode cc pc = .ok (.invokestatic idx, 3)) (hl9 : MLS own idx y bc mL ry 0) (hc : CtV d2 0 y bc mL ry [] σ Q2) (hst : stW st ≤ 8) (hdd : d2 + 1 ≤ d) (hu : u ≤ U) (k : ∀ (σ' : Hp), Q2 σ' → AW X K (pc + 3) lv st σ' u Q) : AW X K pc lv (st) σ u Q := by
  obtain ⟨p, l, e, R, s, m, args, below, meth, c⟩ := X
  obtain ⟨g, cy, A, nL, ρ, L⟩ := K
  obtain ⟨hx, hb, hml, hown, hts, hK, hnd, hD, hA, hlk, hret, hR, htr, hZ, hE⟩ := F
  subst hR
  obtain ⟨hE1, rfl⟩ := hE
  intro H locs ls hP hS hl
  have hf9 : ∀ q, Aof ρ Lall H.size q → A q := fun q h => h.elim (fun ⟨i, hi, he⟩ => he ▸ wsA_D hD i hi) (fun h => hA q (Nat.le_trans hS.1 h))
  have hM := hc l g cy ρ H.size htr
  refine va_callv (va_runS (As := [].map (cv ρ)) (rest := st.map (cv ρ)) ⟨hx, hb, hml, hown, hts⟩ hM (hl9.cw hts hdd) ⟨WRs_blind, fun V hV hW => ⟨rfl, WRs_call hK hD hA hZ hP hS hV hW⟩⟩ rfl rfl hl.1 rfl (lv_room (Nat.le_trans (st_cat st) hst)) hd ⟨hu, by show 64 * u + 64 * 0 ≤ 64 * U; omega⟩) hS (fun q _ h => hf9 q h) hf9 (fun u9 t9 H1 locs1 ht hvm hw hB hz1 hk1 hS1 => ?_)
  have hP1 : va_P g vwCl (wsOf ρ cy Lall u9) H1 := by rw [← ht]; exact hB.1
  exact k u9 hw H1 locs1 ls hP1 hS1 hl
theorem aw_xcallSVI0 {Q2 : Hp → Prop} {QX2 QX : String → Hp → Prop} {Q9 : Int → Hp → Prop} (F : Fx X K cc own ret d U true) (hd : decode cc pc = .ok (.invokestatic idx, 3)) (hl9 : MLS own idx y bc mL ry 0) (hc : CxV d2 U2 y bc mL ry [] σ Q2 QX2) (hst : stW st ≤ 8) (hdd : d2 + 1 ≤ d) (hu : u + U2 ≤ U) (hx2 : ∀ (E : String) (σ' : Hp), QX2 E σ' → QX E σ') (k : ∀ (σ' : Hp), Q2 σ' → AW X K (pc + 3) lv st σ' (u + U2) (XI X K U Q9 QX)) : AW X K pc lv (st) σ u (XI X K U Q9 QX) := by
  obtain ⟨p, l, e, R, s, m, args, below, meth, c⟩ := X
  obtain ⟨g, cy, A, nL, ρ, L⟩ := K
  obtain ⟨hx, hb, hml, hown, hts, hK, hnd, hD, hA, hlk, hret, hR, htr, hZ, hE⟩ := F
  subst hR
  obtain ⟨hE1, rfl⟩ := hE
  intro H locs ls hP hS hl
  have hf9 : ∀ q, Aof ρ Lall H.size q → A q := fun q h => h.elim (fun ⟨i, hi, he⟩ => he ▸ wsA_D hD i hi) (fun h => hA q (Nat.le_trans hS.1 h))
  have hM := hc l g cy ρ H.size htr
  refine vx_callv (vx_runS (As := [].map (cv ρ)) (rest := st.map (cv ρ)) ⟨hx, hb, hml, hown, hts⟩ hM (hl9.cw hts hdd) ⟨WRs_blind, fun V hV hW => ⟨rfl, WRs_call hK hD hA hZ hP hS hV hW⟩⟩ rfl rfl hl.1 rfl (lv_room (Nat.le_trans (st_cat st) hst)) hd ⟨hu, by show 64 * u + 64 * U2 ≤ 64 * U; omega⟩) hS (fun q _ h => hf9 q h) hf9 (fun q _ h => hf9 q h) (fun E ce q9 u9 t9 H1 locs1 ht hvm _ hB hz1 hk1 hS1 hce hv hcl => ?_) (fun u9 t9 H1 locs1 ht hvm hw hB hz1 hk1 hS1 => ?_)
  · obtain ⟨hB0, hB1, hB2⟩ := hB
    refine vx_out (fun x hx => absurd (hE1 rfl x hx) id) hlk hce hv hcl (fun t' ht' hvm' => ⟨u9, trivial, ⟨hx2 E u9 hB0, ?_, va_K.moved hvm' hK⟩, hS1.F ht'⟩) hS1.2.2 hu (by show 64 * u + 64 * U2 ≤ 64 * U; omega)
    rw [ht', ← ht]
    exact hB1
  · have hP1 : va_P g vwCl (wsOf ρ cy Lall u9) H1 := by rw [← ht]; exact hB.1
    rw [show 64 * u + 64 * U2 = 64 * (u + U2) by omega]
    exact k u9 hw H1 locs1 ls hP1 hS1 hl
theorem aw_xcallSVV0 {Q2 : Hp → Prop} {QX2 QX : String → Hp → Prop} {Q9 : Hp → Prop} (F : Fx X K cc own ret d U true) (hd : decode cc pc = .ok (.invokestatic idx, 3)) (hl9 : MLS own idx y bc mL ry 0) (hc : CxV d2 U2 y bc mL ry [] σ Q2 QX2) (hst : stW st ≤ 8) (hdd : d2 + 1 ≤ d) (hu : u + U2 ≤ U) (hx2 : ∀ (E : String) (σ' : Hp), QX2 E σ' → QX E σ') (k : ∀ (σ' : Hp), Q2 σ' → AW X K (pc + 3) lv st σ' (u + U2) (XV X K U Q9 QX)) : AW X K pc lv (st) σ u (XV X K U Q9 QX) := by
  obtain ⟨p, l, e, R, s, m, args, below, meth, c⟩ := X
  obtain ⟨g, cy, A, nL, ρ, L⟩ := K
  obtain ⟨hx, hb, hml, hown, hts, hK, hnd, hD, hA, hlk, hret, hR, htr, hZ, hE⟩ := F
  subst hR
  obtain ⟨hE1, rfl⟩ := hE
  intro H locs ls hP hS hl
  have hf9 : ∀ q, Aof ρ Lall H.size q → A q := fun q h => h.elim (fun ⟨i, hi, he⟩ => he ▸ wsA_D hD i hi) (fun h => hA q (Nat.le_trans hS.1 h))
  have hM := hc l g cy ρ H.size htr
  refine vx_callv (vx_runS (As := [].map (cv ρ)) (rest := st.map (cv ρ)) ⟨hx, hb, hml, hown, hts⟩ hM (hl9.cw hts hdd) ⟨WRs_blind, fun V hV hW => ⟨rfl, WRs_call hK hD hA hZ hP hS hV hW⟩⟩ rfl rfl hl.1 rfl (lv_room (Nat.le_trans (st_cat st) hst)) hd ⟨hu, by show 64 * u + 64 * U2 ≤ 64 * U; omega⟩) hS (fun q _ h => hf9 q h) hf9 (fun q _ h => hf9 q h) (fun E ce q9 u9 t9 H1 locs1 ht hvm _ hB hz1 hk1 hS1 hce hv hcl => ?_) (fun u9 t9 H1 locs1 ht hvm hw hB hz1 hk1 hS1 => ?_)
  · obtain ⟨hB0, hB1, hB2⟩ := hB
    refine vx_out (fun x hx => absurd (hE1 rfl x hx) id) hlk hce hv hcl (fun t' ht' hvm' => ⟨u9, trivial, ⟨hx2 E u9 hB0, ?_, va_K.moved hvm' hK⟩, hS1.F ht'⟩) hS1.2.2 hu (by show 64 * u + 64 * U2 ≤ 64 * U; omega)
    rw [ht', ← ht]
    exact hB1
  · have hP1 : va_P g vwCl (wsOf ρ cy Lall u9) H1 := by rw [← ht]; exact hB.1
    rw [show 64 * u + 64 * U2 = 64 * (u + U2) by omega]
    exact k u9 hw H1 locs1 ls hP1 hS1 hl
theorem aw_callSI1 {za : AV} {Q2 : Int → Hp → Prop} (F : Fx X K cc own ret d U tb) (hd : decode cc pc = .ok (.invokestatic idx, 3)) (hl9 : MLS own idx y bc mL ry 1) (hc : CtI d2 0 y bc mL ry [za] σ Q2) (hst : stW st ≤ 8) (hdd : d2 + 1 ≤ d) (hu : u ≤ U) (k : ∀ (v : Int) (σ' : Hp), Q2 v σ' → AW X K (pc + 3) lv (aI v :: st) σ' u Q) : AW X K pc lv (za :: st) σ u Q := by
  obtain ⟨p, l, e, R, s, m, args, below, meth, c⟩ := X
  obtain ⟨g, cy, A, nL, ρ, L⟩ := K
  obtain ⟨hx, hb, hml, hown, hts, hK, hnd, hD, hA, hlk, hret, hR, htr, hZ, hE⟩ := F
  subst hR
  obtain ⟨hE1, rfl⟩ := hE
  intro H locs ls hP hS hl
  have hf9 : ∀ q, Aof ρ Lall H.size q → A q := fun q h => h.elim (fun ⟨i, hi, he⟩ => he ▸ wsA_D hD i hi) (fun h => hA q (Nat.le_trans hS.1 h))
  have hM := hc l g cy ρ H.size htr
  refine va_calli (va_runS (As := [za].map (cv ρ)) (rest := st.map (cv ρ)) ⟨hx, hb, hml, hown, hts⟩ hM (hl9.cw hts hdd) ⟨WRs_blind, fun V hV hW => ⟨rfl, WRs_call hK hD hA hZ hP hS hV hW⟩⟩ rfl rfl hl.1 rfl (lv_room (Nat.le_trans (st_cat st) hst)) hd ⟨hu, by show 64 * u + 64 * 0 ≤ 64 * U; omega⟩) hS (fun q _ h => hf9 q h) hf9 (fun v9 u9 t9 H1 locs1 ht hvm hw hB hz1 hk1 hS1 => ?_)
  obtain ⟨hw1, hw2⟩ := hw
  subst hw1
  have hP1 : va_P g vwCl (wsOf ρ cy Lall u9.2) H1 := by rw [← ht]; exact hB.1
  exact k u9.1 u9.2 hw2 H1 locs1 ls hP1 hS1 hl
theorem aw_pcallS1 {za : AV} {e9 : Int} (F : Fx X K cc own ret d U tb) (hd : decode cc pc = .ok (.invokestatic idx, 3)) (hl9 : MLS own idx y bc mL ry 1) (hc : CtI d2 0 y bc mL ry [za] σ (PU σ e9)) (hst : stW st ≤ 8) (hdd : d2 + 1 ≤ d) (hu : u ≤ U) (k : AW X K (pc + 3) lv (aI e9 :: st) σ u Q) : AW X K pc lv (za :: st) σ u Q :=
  aw_callSI1 F hd hl9 hc hst hdd hu (fun v9 s9 h => by obtain ⟨rfl, rfl⟩ := h; exact k)
theorem aw_xcallSII1 {za : AV} {Q2 : Int → Hp → Prop} {QX2 QX : String → Hp → Prop} {Q9 : Int → Hp → Prop} (F : Fx X K cc own ret d U true) (hd : decode cc pc = .ok (.invokestatic idx, 3)) (hl9 : MLS own idx y bc mL ry 1) (hc : CxI d2 U2 y bc mL ry [za] σ Q2 QX2) (hst : stW st ≤ 8) (hdd : d2 + 1 ≤ d) (hu : u + U2 ≤ U) (hx2 : ∀ (E : String) (σ' : Hp), QX2 E σ' → QX E σ') (k : ∀ (v : Int) (σ' : Hp), Q2 v σ' → AW X K (pc + 3) lv (aI v :: st) σ' (u + U2) (XI X K U Q9 QX)) : AW X K pc lv (za :: st) σ u (XI X K U Q9 QX) := by
  obtain ⟨p, l, e, R, s, m, args, below, meth, c⟩ := X
  obtain ⟨g, cy, A, nL, ρ, L⟩ := K
  obtain ⟨hx, hb, hml, hown, hts, hK, hnd, hD, hA, hlk, hret, hR, htr, hZ, hE⟩ := F
  subst hR
  obtain ⟨hE1, rfl⟩ := hE
  intro H locs ls hP hS hl
  have hf9 : ∀ q, Aof ρ Lall H.size q → A q := fun q h => h.elim (fun ⟨i, hi, he⟩ => he ▸ wsA_D hD i hi) (fun h => hA q (Nat.le_trans hS.1 h))
  have hM := hc l g cy ρ H.size htr
  refine vx_calli (vx_runS (As := [za].map (cv ρ)) (rest := st.map (cv ρ)) ⟨hx, hb, hml, hown, hts⟩ hM (hl9.cw hts hdd) ⟨WRs_blind, fun V hV hW => ⟨rfl, WRs_call hK hD hA hZ hP hS hV hW⟩⟩ rfl rfl hl.1 rfl (lv_room (Nat.le_trans (st_cat st) hst)) hd ⟨hu, by show 64 * u + 64 * U2 ≤ 64 * U; omega⟩) hS (fun q _ h => hf9 q h) hf9 (fun q _ h => hf9 q h) (fun E ce q9 u9 t9 H1 locs1 ht hvm _ hB hz1 hk1 hS1 hce hv hcl => ?_) (fun v9 u9 t9 H1 locs1 ht hvm hw hB hz1 hk1 hS1 => ?_)
  · obtain ⟨hB0, hB1, hB2⟩ := hB
    refine vx_out (fun x hx => absurd (hE1 rfl x hx) id) hlk hce hv hcl (fun t' ht' hvm' => ⟨u9, trivial, ⟨hx2 E u9 hB0, ?_, va_K.moved hvm' hK⟩, hS1.F ht'⟩) hS1.2.2 hu (by show 64 * u + 64 * U2 ≤ 64 * U; omega)
    rw [ht', ← ht]
    exact hB1
  · obtain ⟨hw1, hw2⟩ := hw
    subst hw1
    have hP1 : va_P g vwCl (wsOf ρ cy Lall u9.2) H1 := by rw [← ht]; exact hB.1
    rw [show 64 * u + 64 * U2 = 64 * (u + U2) by omega]
    exact k u9.1 u9.2 hw2 H1 locs1 ls hP1 hS1 hl
theorem aw_xcallSIV1 {za : AV} {Q2 : Int → Hp → Prop} {QX2 QX : String → Hp → Prop} {Q9 : Hp → Prop} (F : Fx X K cc own ret d U true) (hd : decode cc pc = .ok (.invokestatic idx, 3)) (hl9 : MLS own idx y bc mL ry 1) (hc : CxI d2 U2 y bc mL ry [za] σ Q2 QX2) (hst : stW st ≤ 8) (hdd : d2 + 1 ≤ d) (hu : u + U2 ≤ U) (hx2 : ∀ (E : String) (σ' : Hp), QX2 E σ' → QX E σ') (k : ∀ (v : Int) (σ' : Hp), Q2 v σ' → AW X K (pc + 3) lv (aI v :: st) σ' (u + U2) (XV X K U Q9 QX)) : AW X K pc lv (za :: st) σ u (XV X K U Q9 QX) := by
  obtain ⟨p, l, e, R, s, m, args, below, meth, c⟩ := X
  obtain ⟨g, cy, A, nL, ρ, L⟩ := K
  obtain ⟨hx, hb, hml, hown, hts, hK, hnd, hD, hA, hlk, hret, hR, htr, hZ, hE⟩ := F
  subst hR
  obtain ⟨hE1, rfl⟩ := hE
  intro H locs ls hP hS hl
  have hf9 : ∀ q, Aof ρ Lall H.size q → A q := fun q h => h.elim (fun ⟨i, hi, he⟩ => he ▸ wsA_D hD i hi) (fun h => hA q (Nat.le_trans hS.1 h))
  have hM := hc l g cy ρ H.size htr
  refine vx_calli (vx_runS (As := [za].map (cv ρ)) (rest := st.map (cv ρ)) ⟨hx, hb, hml, hown, hts⟩ hM (hl9.cw hts hdd) ⟨WRs_blind, fun V hV hW => ⟨rfl, WRs_call hK hD hA hZ hP hS hV hW⟩⟩ rfl rfl hl.1 rfl (lv_room (Nat.le_trans (st_cat st) hst)) hd ⟨hu, by show 64 * u + 64 * U2 ≤ 64 * U; omega⟩) hS (fun q _ h => hf9 q h) hf9 (fun q _ h => hf9 q h) (fun E ce q9 u9 t9 H1 locs1 ht hvm _ hB hz1 hk1 hS1 hce hv hcl => ?_) (fun v9 u9 t9 H1 locs1 ht hvm hw hB hz1 hk1 hS1 => ?_)
  · obtain ⟨hB0, hB1, hB2⟩ := hB
    refine vx_out (fun x hx => absurd (hE1 rfl x hx) id) hlk hce hv hcl (fun t' ht' hvm' => ⟨u9, trivial, ⟨hx2 E u9 hB0, ?_, va_K.moved hvm' hK⟩, hS1.F ht'⟩) hS1.2.2 hu (by show 64 * u + 64 * U2 ≤ 64 * U; omega)
    rw [ht', ← ht]
    exact hB1
  · obtain ⟨hw1, hw2⟩ := hw
    subst hw1
    have hP1 : va_P g vwCl (wsOf ρ cy Lall u9.2) H1 := by rw [← ht]; exact hB.1
    rw [show 64 * u + 64 * U2 = 64 * (u + U2) by omega]
    exact k u9.1 u9.2 hw2 H1 locs1 ls hP1 hS1 hl
theorem aw_callSV1 {za : AV} {Q2 : Hp → Prop} (F : Fx X K cc own ret d U tb) (hd : decode cc pc = .ok (.invokestatic idx, 3)) (hl9 : MLS own idx y bc mL ry 1) (hc : CtV d2 0 y bc mL ry [za] σ Q2) (hst : stW st ≤ 8) (hdd : d2 + 1 ≤ d) (hu : u ≤ U) (k : ∀ (σ' : Hp), Q2 σ' → AW X K (pc + 3) lv st σ' u Q) : AW X K pc lv (za :: st) σ u Q := by
  obtain ⟨p, l, e, R, s, m, args, below, meth, c⟩ := X
  obtain ⟨g, cy, A, nL, ρ, L⟩ := K
  obtain ⟨hx, hb, hml, hown, hts, hK, hnd, hD, hA, hlk, hret, hR, htr, hZ, hE⟩ := F
  subst hR
  obtain ⟨hE1, rfl⟩ := hE
  intro H locs ls hP hS hl
  have hf9 : ∀ q, Aof ρ Lall H.size q → A q := fun q h => h.elim (fun ⟨i, hi, he⟩ => he ▸ wsA_D hD i hi) (fun h => hA q (Nat.le_trans hS.1 h))
  have hM := hc l g cy ρ H.size htr
  refine va_callv (va_runS (As := [za].map (cv ρ)) (rest := st.map (cv ρ)) ⟨hx, hb, hml, hown, hts⟩ hM (hl9.cw hts hdd) ⟨WRs_blind, fun V hV hW => ⟨rfl, WRs_call hK hD hA hZ hP hS hV hW⟩⟩ rfl rfl hl.1 rfl (lv_room (Nat.le_trans (st_cat st) hst)) hd ⟨hu, by show 64 * u + 64 * 0 ≤ 64 * U; omega⟩) hS (fun q _ h => hf9 q h) hf9 (fun u9 t9 H1 locs1 ht hvm hw hB hz1 hk1 hS1 => ?_)
  have hP1 : va_P g vwCl (wsOf ρ cy Lall u9) H1 := by rw [← ht]; exact hB.1
  exact k u9 hw H1 locs1 ls hP1 hS1 hl
theorem aw_xcallSVI1 {za : AV} {Q2 : Hp → Prop} {QX2 QX : String → Hp → Prop} {Q9 : Int → Hp → Prop} (F : Fx X K cc own ret d U true) (hd : decode cc pc = .ok (.invokestatic idx, 3)) (hl9 : MLS own idx y bc mL ry 1) (hc : CxV d2 U2 y bc mL ry [za] σ Q2 QX2) (hst : stW st ≤ 8) (hdd : d2 + 1 ≤ d) (hu : u + U2 ≤ U) (hx2 : ∀ (E : String) (σ' : Hp), QX2 E σ' → QX E σ') (k : ∀ (σ' : Hp), Q2 σ' → AW X K (pc + 3) lv st σ' (u + U2) (XI X K U Q9 QX)) : AW X K pc lv (za :: st) σ u (XI X K U Q9 QX) := by
  obtain ⟨p, l, e, R, s, m, args, below, meth, c⟩ := X
  obtain ⟨g, cy, A, nL, ρ, L⟩ := K
  obtain ⟨hx, hb, hml, hown, hts, hK, hnd, hD, hA, hlk, hret, hR, htr, hZ, hE⟩ := F
  subst hR
  obtain ⟨hE1, rfl⟩ := hE
  intro H locs ls hP hS hl
  have hf9 : ∀ q, Aof ρ Lall H.size q → A q := fun q h => h.elim (fun ⟨i, hi, he⟩ => he ▸ wsA_D hD i hi) (fun h => hA q (Nat.le_trans hS.1 h))
  have hM := hc l g cy ρ H.size htr
  refine vx_callv (vx_runS (As := [za].map (cv ρ)) (rest := st.map (cv ρ)) ⟨hx, hb, hml, hown, hts⟩ hM (hl9.cw hts hdd) ⟨WRs_blind, fun V hV hW => ⟨rfl, WRs_call hK hD hA hZ hP hS hV hW⟩⟩ rfl rfl hl.1 rfl (lv_room (Nat.le_trans (st_cat st) hst)) hd ⟨hu, by show 64 * u + 64 * U2 ≤ 64 * U; omega⟩) hS (fun q _ h => hf9 q h) hf9 (fun q _ h => hf9 q h) (fun E ce q9 u9 t9 H1 locs1 ht hvm _ hB hz1 hk1 hS1 hce hv hcl => ?_) (fun u9 t9 H1 locs1 ht hvm hw hB hz1 hk1 hS1 => ?_)
  · obtain ⟨hB0, hB1, hB2⟩ := hB
    refine vx_out (fun x hx => absurd (hE1 rfl x hx) id) hlk hce hv hcl (fun t' ht' hvm' => ⟨u9, trivial, ⟨hx2 E u9 hB0, ?_, va_K.moved hvm' hK⟩, hS1.F ht'⟩) hS1.2.2 hu (by show 64 * u + 64 * U2 ≤ 64 * U; omega)
    rw [ht', ← ht]
    exact hB1
  · have hP1 : va_P g vwCl (wsOf ρ cy Lall u9) H1 := by rw [← ht]; exact hB.1
    rw [show 64 * u + 64 * U2 = 64 * (u + U2) by omega]
    exact k u9 hw H1 locs1 ls hP1 hS1 hl
theorem aw_xcallSVV1 {za : AV} {Q2 : Hp → Prop} {QX2 QX : String → Hp → Prop} {Q9 : Hp → Prop} (F : Fx X K cc own ret d U true) (hd : decode cc pc = .ok (.invokestatic idx, 3)) (hl9 : MLS own idx y bc mL ry 1) (hc : CxV d2 U2 y bc mL ry [za] σ Q2 QX2) (hst : stW st ≤ 8) (hdd : d2 + 1 ≤ d) (hu : u + U2 ≤ U) (hx2 : ∀ (E : String) (σ' : Hp), QX2 E σ' → QX E σ') (k : ∀ (σ' : Hp), Q2 σ' → AW X K (pc + 3) lv st σ' (u + U2) (XV X K U Q9 QX)) : AW X K pc lv (za :: st) σ u (XV X K U Q9 QX) := by
  obtain ⟨p, l, e, R, s, m, args, below, meth, c⟩ := X
  obtain ⟨g, cy, A, nL, ρ, L⟩ := K
  obtain ⟨hx, hb, hml, hown, hts, hK, hnd, hD, hA, hlk, hret, hR, htr, hZ, hE⟩ := F
  subst hR
  obtain ⟨hE1, rfl⟩ := hE
  intro H locs ls hP hS hl
  have hf9 : ∀ q, Aof ρ Lall H.size q → A q := fun q h => h.elim (fun ⟨i, hi, he⟩ => he ▸ wsA_D hD i hi) (fun h => hA q (Nat.le_trans hS.1 h))
  have hM := hc l g cy ρ H.size htr
  refine vx_callv (vx_runS (As := [za].map (cv ρ)) (rest := st.map (cv ρ)) ⟨hx, hb, hml, hown, hts⟩ hM (hl9.cw hts hdd) ⟨WRs_blind, fun V hV hW => ⟨rfl, WRs_call hK hD hA hZ hP hS hV hW⟩⟩ rfl rfl hl.1 rfl (lv_room (Nat.le_trans (st_cat st) hst)) hd ⟨hu, by show 64 * u + 64 * U2 ≤ 64 * U; omega⟩) hS (fun q _ h => hf9 q h) hf9 (fun q _ h => hf9 q h) (fun E ce q9 u9 t9 H1 locs1 ht hvm _ hB hz1 hk1 hS1 hce hv hcl => ?_) (fun u9 t9 H1 locs1 ht hvm hw hB hz1 hk1 hS1 => ?_)
  · obtain ⟨hB0, hB1, hB2⟩ := hB
    refine vx_out (fun x hx => absurd (hE1 rfl x hx) id) hlk hce hv hcl (fun t' ht' hvm' => ⟨u9, trivial, ⟨hx2 E u9 hB0, ?_, va_K.moved hvm' hK⟩, hS1.F ht'⟩) hS1.2.2 hu (by show 64 * u + 64 * U2 ≤ 64 * U; omega)
    rw [ht', ← ht]
    exact hB1
  · have hP1 : va_P g vwCl (wsOf ρ cy Lall u9) H1 := by rw [← ht]; exact hB.1
    rw [show 64 * u + 64 * U2 = 64 * (u + U2) by omega]
    exact k u9 hw H1 locs1 ls hP1 hS1 hl
theorem aw_callSI2 {za zb : AV} {Q2 : Int → Hp → Prop} (F : Fx X K cc own ret d U tb) (hd : decode cc pc = .ok (.invokestatic idx, 3)) (hl9 : MLS own idx y bc mL ry 2) (hc : CtI d2 0 y bc mL ry [za, zb] σ Q2) (hst : stW st ≤ 8) (hdd : d2 + 1 ≤ d) (hu : u ≤ U) (k : ∀ (v : Int) (σ' : Hp), Q2 v σ' → AW X K (pc + 3) lv (aI v :: st) σ' u Q) : AW X K pc lv (zb :: za :: st) σ u Q := by
  obtain ⟨p, l, e, R, s, m, args, below, meth, c⟩ := X
  obtain ⟨g, cy, A, nL, ρ, L⟩ := K
  obtain ⟨hx, hb, hml, hown, hts, hK, hnd, hD, hA, hlk, hret, hR, htr, hZ, hE⟩ := F
  subst hR
  obtain ⟨hE1, rfl⟩ := hE
  intro H locs ls hP hS hl
  have hf9 : ∀ q, Aof ρ Lall H.size q → A q := fun q h => h.elim (fun ⟨i, hi, he⟩ => he ▸ wsA_D hD i hi) (fun h => hA q (Nat.le_trans hS.1 h))
  have hM := hc l g cy ρ H.size htr
  refine va_calli (va_runS (As := [za, zb].map (cv ρ)) (rest := st.map (cv ρ)) ⟨hx, hb, hml, hown, hts⟩ hM (hl9.cw hts hdd) ⟨WRs_blind, fun V hV hW => ⟨rfl, WRs_call hK hD hA hZ hP hS hV hW⟩⟩ rfl rfl hl.1 rfl (lv_room (Nat.le_trans (st_cat st) hst)) hd ⟨hu, by show 64 * u + 64 * 0 ≤ 64 * U; omega⟩) hS (fun q _ h => hf9 q h) hf9 (fun v9 u9 t9 H1 locs1 ht hvm hw hB hz1 hk1 hS1 => ?_)
  obtain ⟨hw1, hw2⟩ := hw
  subst hw1
  have hP1 : va_P g vwCl (wsOf ρ cy Lall u9.2) H1 := by rw [← ht]; exact hB.1
  exact k u9.1 u9.2 hw2 H1 locs1 ls hP1 hS1 hl
theorem aw_pcallS2 {za zb : AV} {e9 : Int} (F : Fx X K cc own ret d U tb) (hd : decode cc pc = .ok (.invokestatic idx, 3)) (hl9 : MLS own idx y bc mL ry 2) (hc : CtI d2 0 y bc mL ry [za, zb] σ (PU σ e9)) (hst : stW st ≤ 8) (hdd : d2 + 1 ≤ d) (hu : u ≤ U) (k : AW X K (pc + 3) lv (aI e9 :: st) σ u Q) : AW X K pc lv (zb :: za :: st) σ u Q :=
  aw_callSI2 F hd hl9 hc hst hdd hu (fun v9 s9 h => by obtain ⟨rfl, rfl⟩ := h; exact k)
theorem aw_xcallSII2 {za zb : AV} {Q2 : Int → Hp → Prop} {QX2 QX : String → Hp → Prop} {Q9 : Int → Hp → Prop} (F : Fx X K cc own ret d U true) (hd : decode cc pc = .ok (.invokestatic idx, 3)) (hl9 : MLS own idx y bc mL ry 2) (hc : CxI d2 U2 y bc mL ry [za, zb] σ Q2 QX2) (hst : stW st ≤ 8) (hdd : d2 + 1 ≤ d) (hu : u + U2 ≤ U) (hx2 : ∀ (E : String) (σ' : Hp), QX2 E σ' → QX E σ') (k : ∀ (v : Int) (σ' : Hp), Q2 v σ' → AW X K (pc + 3) lv (aI v :: st) σ' (u + U2) (XI X K U Q9 QX)) : AW X K pc lv (zb :: za :: st) σ u (XI X K U Q9 QX) := by
  obtain ⟨p, l, e, R, s, m, args, below, meth, c⟩ := X
  obtain ⟨g, cy, A, nL, ρ, L⟩ := K
  obtain ⟨hx, hb, hml, hown, hts, hK, hnd, hD, hA, hlk, hret, hR, htr, hZ, hE⟩ := F
  subst hR
  obtain ⟨hE1, rfl⟩ := hE
  intro H locs ls hP hS hl
  have hf9 : ∀ q, Aof ρ Lall H.size q → A q := fun q h => h.elim (fun ⟨i, hi, he⟩ => he ▸ wsA_D hD i hi) (fun h => hA q (Nat.le_trans hS.1 h))
  have hM := hc l g cy ρ H.size htr
  refine vx_calli (vx_runS (As := [za, zb].map (cv ρ)) (rest := st.map (cv ρ)) ⟨hx, hb, hml, hown, hts⟩ hM (hl9.cw hts hdd) ⟨WRs_blind, fun V hV hW => ⟨rfl, WRs_call hK hD hA hZ hP hS hV hW⟩⟩ rfl rfl hl.1 rfl (lv_room (Nat.le_trans (st_cat st) hst)) hd ⟨hu, by show 64 * u + 64 * U2 ≤ 64 * U; omega⟩) hS (fun q _ h => hf9 q h) hf9 (fun q _ h => hf9 q h) (fun E ce q9 u9 t9 H1 locs1 ht hvm _ hB hz1 hk1 hS1 hce hv hcl => ?_) (fun v9 u9 t9 H1 locs1 ht hvm hw hB hz1 hk1 hS1 => ?_)
  · obtain ⟨hB0, hB1, hB2⟩ := hB
    refine vx_out (fun x hx => absurd (hE1 rfl x hx) id) hlk hce hv hcl (fun t' ht' hvm' => ⟨u9, trivial, ⟨hx2 E u9 hB0, ?_, va_K.moved hvm' hK⟩, hS1.F ht'⟩) hS1.2.2 hu (by show 64 * u + 64 * U2 ≤ 64 * U; omega)
    rw [ht', ← ht]
    exact hB1
  · obtain ⟨hw1, hw2⟩ := hw
    subst hw1
    have hP1 : va_P g vwCl (wsOf ρ cy Lall u9.2) H1 := by rw [← ht]; exact hB.1
    rw [show 64 * u + 64 * U2 = 64 * (u + U2) by omega]
    exact k u9.1 u9.2 hw2 H1 locs1 ls hP1 hS1 hl
theorem aw_xcallSIV2 {za zb : AV} {Q2 : Int → Hp → Prop} {QX2 QX : String → Hp → Prop} {Q9 : Hp → Prop} (F : Fx X K cc own ret d U true) (hd : decode cc pc = .ok (.invokestatic idx, 3)) (hl9 : MLS own idx y bc mL ry 2) (hc : CxI d2 U2 y bc mL ry [za, zb] σ Q2 QX2) (hst : stW st ≤ 8) (hdd : d2 + 1 ≤ d) (hu : u + U2 ≤ U) (hx2 : ∀ (E : String) (σ' : Hp), QX2 E σ' → QX E σ') (k : ∀ (v : Int) (σ' : Hp), Q2 v σ' → AW X K (pc + 3) lv (aI v :: st) σ' (u + U2) (XV X K U Q9 QX)) : AW X K pc lv (zb :: za :: st) σ u (XV X K U Q9 QX) := by
  obtain ⟨p, l, e, R, s, m, args, below, meth, c⟩ := X
  obtain ⟨g, cy, A, nL, ρ, L⟩ := K
  obtain ⟨hx, hb, hml, hown, hts, hK, hnd, hD, hA, hlk, hret, hR, htr, hZ, hE⟩ := F
  subst hR
  obtain ⟨hE1, rfl⟩ := hE
  intro H locs ls hP hS hl
  have hf9 : ∀ q, Aof ρ Lall H.size q → A q := fun q h => h.elim (fun ⟨i, hi, he⟩ => he ▸ wsA_D hD i hi) (fun h => hA q (Nat.le_trans hS.1 h))
  have hM := hc l g cy ρ H.size htr
  refine vx_calli (vx_runS (As := [za, zb].map (cv ρ)) (rest := st.map (cv ρ)) ⟨hx, hb, hml, hown, hts⟩ hM (hl9.cw hts hdd) ⟨WRs_blind, fun V hV hW => ⟨rfl, WRs_call hK hD hA hZ hP hS hV hW⟩⟩ rfl rfl hl.1 rfl (lv_room (Nat.le_trans (st_cat st) hst)) hd ⟨hu, by show 64 * u + 64 * U2 ≤ 64 * U; omega⟩) hS (fun q _ h => hf9 q h) hf9 (fun q _ h => hf9 q h) (fun E ce q9 u9 t9 H1 locs1 ht hvm _ hB hz1 hk1 hS1 hce hv hcl => ?_) (fun v9 u9 t9 H1 locs1 ht hvm hw hB hz1 hk1 hS1 => ?_)
  · obtain ⟨hB0, hB1, hB2⟩ := hB
    refine vx_out (fun x hx => absurd (hE1 rfl x hx) id) hlk hce hv hcl (fun t' ht' hvm' => ⟨u9, trivial, ⟨hx2 E u9 hB0, ?_, va_K.moved hvm' hK⟩, hS1.F ht'⟩) hS1.2.2 hu (by show 64 * u + 64 * U2 ≤ 64 * U; omega)
    rw [ht', ← ht]
    exact hB1
  · obtain ⟨hw1, hw2⟩ := hw
    subst hw1
    have hP1 : va_P g vwCl (wsOf ρ cy Lall u9.2) H1 := by rw [← ht]; exact hB.1
    rw [show 64 * u + 64 * U2 = 64 * (u + U2) by omega]
    exact k u9.1 u9.2 hw2 H1 locs1 ls hP1 hS1 hl
theorem aw_callSV2 {za zb : AV} {Q2 : Hp → Prop} (F : Fx X K cc own ret d U tb) (hd : decode cc pc = .ok (.invokestatic idx, 3)) (hl9 : MLS own idx y bc mL ry 2) (hc : CtV d2 0 y bc mL ry [za, zb] σ Q2) (hst : stW st ≤ 8) (hdd : d2 + 1 ≤ d) (hu : u ≤ U) (k : ∀ (σ' : Hp), Q2 σ' → AW X K (pc + 3) lv st σ' u Q) : AW X K pc lv (zb :: za :: st) σ u Q := by
  obtain ⟨p, l, e, R, s, m, args, below, meth, c⟩ := X
  obtain ⟨g, cy, A, nL, ρ, L⟩ := K
  obtain ⟨hx, hb, hml, hown, hts, hK, hnd, hD, hA, hlk, hret, hR, htr, hZ, hE⟩ := F
  subst hR
  obtain ⟨hE1, rfl⟩ := hE
  intro H locs ls hP hS hl
  have hf9 : ∀ q, Aof ρ Lall H.size q → A q := fun q h => h.elim (fun ⟨i, hi, he⟩ => he ▸ wsA_D hD i hi) (fun h => hA q (Nat.le_trans hS.1 h))
  have hM := hc l g cy ρ H.size htr
  refine va_callv (va_runS (As := [za, zb].map (cv ρ)) (rest := st.map (cv ρ)) ⟨hx, hb, hml, hown, hts⟩ hM (hl9.cw hts hdd) ⟨WRs_blind, fun V hV hW => ⟨rfl, WRs_call hK hD hA hZ hP hS hV hW⟩⟩ rfl rfl hl.1 rfl (lv_room (Nat.le_trans (st_cat st) hst)) hd ⟨hu, by show 64 * u + 64 * 0 ≤ 64 * U; omega⟩) hS (fun q _ h => hf9 q h) hf9 (fun u9 t9 H1 locs1 ht hvm hw hB hz1 hk1 hS1 => ?_)
  have hP1 : va_P g vwCl (wsOf ρ cy Lall u9) H1 := by rw [← ht]; exact hB.1
  exact k u9 hw H1 locs1 ls hP1 hS1 hl
theorem aw_xcallSVI2 {za zb : AV} {Q2 : Hp → Prop} {QX2 QX : String → Hp → Prop} {Q9 : Int → Hp → Prop} (F : Fx X K cc own ret d U true) (hd : decode cc pc = .ok (.invokestatic idx, 3)) (hl9 : MLS own idx y bc mL ry 2) (hc : CxV d2 U2 y bc mL ry [za, zb] σ Q2 QX2) (hst : stW st ≤ 8) (hdd : d2 + 1 ≤ d) (hu : u + U2 ≤ U) (hx2 : ∀ (E : String) (σ' : Hp), QX2 E σ' → QX E σ') (k : ∀ (σ' : Hp), Q2 σ' → AW X K (pc + 3) lv st σ' (u + U2) (XI X K U Q9 QX)) : AW X K pc lv (zb :: za :: st) σ u (XI X K U Q9 QX) := by
  obtain ⟨p, l, e, R, s, m, args, below, meth, c⟩ := X
  obtain ⟨g, cy, A, nL, ρ, L⟩ := K
  obtain ⟨hx, hb, hml, hown, hts, hK, hnd, hD, hA, hlk, hret, hR, htr, hZ, hE⟩ := F
  subst hR
  obtain ⟨hE1, rfl⟩ := hE
  intro H locs ls hP hS hl
  have hf9 : ∀ q, Aof ρ Lall H.size q → A q := fun q h => h.elim (fun ⟨i, hi, he⟩ => he ▸ wsA_D hD i hi) (fun h => hA q (Nat.le_trans hS.1 h))
  have hM := hc l g cy ρ H.size htr
  refine vx_callv (vx_runS (As := [za, zb].map (cv ρ)) (rest := st.map (cv ρ)) ⟨hx, hb, hml, hown, hts⟩ hM (hl9.cw hts hdd) ⟨WRs_blind, fun V hV hW => ⟨rfl, WRs_call hK hD hA hZ hP hS hV hW⟩⟩ rfl rfl hl.1 rfl (lv_room (Nat.le_trans (st_cat st) hst)) hd ⟨hu, by show 64 * u + 64 * U2 ≤ 64 * U; omega⟩) hS (fun q _ h => hf9 q h) hf9 (fun q _ h => hf9 q h) (fun E ce q9 u9 t9 H1 locs1 ht hvm _ hB hz1 hk1 hS1 hce hv hcl => ?_) (fun u9 t9 H1 locs1 ht hvm hw hB hz1 hk1 hS1 => ?_)
  · obtain ⟨hB0, hB1, hB2⟩ := hB
    refine vx_out (fun x hx => absurd (hE1 rfl x hx) id) hlk hce hv hcl (fun t' ht' hvm' => ⟨u9, trivial, ⟨hx2 E u9 hB0, ?_, va_K.moved hvm' hK⟩, hS1.F ht'⟩) hS1.2.2 hu (by show 64 * u + 64 * U2 ≤ 64 * U; omega)
    rw [ht', ← ht]
    exact hB1
  · have hP1 : va_P g vwCl (wsOf ρ cy Lall u9) H1 := by rw [← ht]; exact hB.1
    rw [show 64 * u + 64 * U2 = 64 * (u + U2) by omega]
    exact k u9 hw H1 locs1 ls hP1 hS1 hl
theorem aw_xcallSVV2 {za zb : AV} {Q2 : Hp → Prop} {QX2 QX : String → Hp → Prop} {Q9 : Hp → Prop} (F : Fx X K cc own ret d U true) (hd : decode cc pc = .ok (.invokestatic idx, 3)) (hl9 : MLS own idx y bc mL ry 2) (hc : CxV d2 U2 y bc mL ry [za, zb] σ Q2 QX2) (hst : stW st ≤ 8) (hdd : d2 + 1 ≤ d) (hu : u + U2 ≤ U) (hx2 : ∀ (E : String) (σ' : Hp), QX2 E σ' → QX E σ') (k : ∀ (σ' : Hp), Q2 σ' → AW X K (pc + 3) lv st σ' (u + U2) (XV X K U Q9 QX)) : AW X K pc lv (zb :: za :: st) σ u (XV X K U Q9 QX) := by
  obtain ⟨p, l, e, R, s, m, args, below, meth, c⟩ := X
  obtain ⟨g, cy, A, nL, ρ, L⟩ := K
  obtain ⟨hx, hb, hml, hown, hts, hK, hnd, hD, hA, hlk, hret, hR, htr, hZ, hE⟩ := F
  subst hR
  obtain ⟨hE1, rfl⟩ := hE
  intro H locs ls hP hS hl
  have hf9 : ∀ q, Aof ρ Lall H.size q → A q := fun q h => h.elim (fun ⟨i, hi, he⟩ => he ▸ wsA_D hD i hi) (fun h => hA q (Nat.le_trans hS.1 h))
  have hM := hc l g cy ρ H.size htr
  refine vx_callv (vx_runS (As := [za, zb].map (cv ρ)) (rest := st.map (cv ρ)) ⟨hx, hb, hml, hown, hts⟩ hM (hl9.cw hts hdd) ⟨WRs_blind, fun V hV hW => ⟨rfl, WRs_call hK hD hA hZ hP hS hV hW⟩⟩ rfl rfl hl.1 rfl (lv_room (Nat.le_trans (st_cat st) hst)) hd ⟨hu, by show 64 * u + 64 * U2 ≤ 64 * U; omega⟩) hS (fun q _ h => hf9 q h) hf9 (fun q _ h => hf9 q h) (fun E ce q9 u9 t9 H1 locs1 ht hvm _ hB hz1 hk1 hS1 hce hv hcl => ?_) (fun u9 t9 H1 locs1 ht hvm hw hB hz1 hk1 hS1 => ?_)
  · obtain ⟨hB0, hB1, hB2⟩ := hB
    refine vx_out (fun x hx => absurd (hE1 rfl x hx) id) hlk hce hv hcl (fun t' ht' hvm' => ⟨u9, trivial, ⟨hx2 E u9 hB0, ?_, va_K.moved hvm' hK⟩, hS1.F ht'⟩) hS1.2.2 hu (by show 64 * u + 64 * U2 ≤ 64 * U; omega)
    rw [ht', ← ht]
    exact hB1
  · have hP1 : va_P g vwCl (wsOf ρ cy Lall u9) H1 := by rw [← ht]; exact hB.1
    rw [show 64 * u + 64 * U2 = 64 * (u + U2) by omega]
    exact k u9 hw H1 locs1 ls hP1 hS1 hl
theorem aw_callSI3 {za zb zc : AV} {Q2 : Int → Hp → Prop} (F : Fx X K cc own ret d U tb) (hd : decode cc pc = .ok (.invokestatic idx, 3)) (hl9 : MLS own idx y bc mL ry 3) (hc : CtI d2 0 y bc mL ry [za, zb, zc] σ Q2) (hst : stW st ≤ 8) (hdd : d2 + 1 ≤ d) (hu : u ≤ U) (k : ∀ (v : Int) (σ' : Hp), Q2 v σ' → AW X K (pc + 3) lv (aI v :: st) σ' u Q) : AW X K pc lv (zc :: zb :: za :: st) σ u Q := by
  obtain ⟨p, l, e, R, s, m, args, below, meth, c⟩ := X
  obtain ⟨g, cy, A, nL, ρ, L⟩ := K
  obtain ⟨hx, hb, hml, hown, hts, hK, hnd, hD, hA, hlk, hret, hR, htr, hZ, hE⟩ := F
  subst hR
  obtain ⟨hE1, rfl⟩ := hE
  intro H locs ls hP hS hl
  have hf9 : ∀ q, Aof ρ Lall H.size q → A q := fun q h => h.elim (fun ⟨i, hi, he⟩ => he ▸ wsA_D hD i hi) (fun h => hA q (Nat.le_trans hS.1 h))
  have hM := hc l g cy ρ H.size htr
  refine va_calli (va_runS (As := [za, zb, zc].map (cv ρ)) (rest := st.map (cv ρ)) ⟨hx, hb, hml, hown, hts⟩ hM (hl9.cw hts hdd) ⟨WRs_blind, fun V hV hW => ⟨rfl, WRs_call hK hD hA hZ hP hS hV hW⟩⟩ rfl rfl hl.1 rfl (lv_room (Nat.le_trans (st_cat st) hst)) hd ⟨hu, by show 64 * u + 64 * 0 ≤ 64 * U; omega⟩) hS (fun q _ h => hf9 q h) hf9 (fun v9 u9 t9 H1 locs1 ht hvm hw hB hz1 hk1 hS1 => ?_)
  obtain ⟨hw1, hw2⟩ := hw
  subst hw1
  have hP1 : va_P g vwCl (wsOf ρ cy Lall u9.2) H1 := by rw [← ht]; exact hB.1
  exact k u9.1 u9.2 hw2 H1 locs1 ls hP1 hS1 hl
theorem aw_pcallS3 {za zb zc : AV} {e9 : Int} (F : Fx X K cc own ret d U tb) (hd : decode cc pc = .ok (.invokestatic idx, 3)) (hl9 : MLS own idx y bc mL ry 3) (hc : CtI d2 0 y bc mL ry [za, zb, zc] σ (PU σ e9)) (hst : stW st ≤ 8) (hdd : d2 + 1 ≤ d) (hu : u ≤ U) (k : AW X K (pc + 3) lv (aI e9 :: st) σ u Q) : AW X K pc lv (zc :: zb :: za :: st) σ u Q :=
  aw_callSI3 F hd hl9 hc hst hdd hu (fun v9 s9 h => by obtain ⟨rfl, rfl⟩ := h; exact k)
theorem aw_xcallSII3 {za zb zc : AV} {Q2 : Int → Hp → Prop} {QX2 QX : String → Hp → Prop} {Q9 : Int → Hp → Prop} (F : Fx X K cc own ret d U true) (hd : decode cc pc = .ok (.invokestatic idx, 3)) (hl9 : MLS own idx y bc mL ry 3) (hc : CxI d2 U2 y bc mL ry [za, zb, zc] σ Q2 QX2) (hst : stW st ≤ 8) (hdd : d2 + 1 ≤ d) (hu : u + U2 ≤ U) (hx2 : ∀ (E : String) (σ' : Hp), QX2 E σ' → QX E σ') (k : ∀ (v : Int) (σ' : Hp), Q2 v σ' → AW X K (pc + 3) lv (aI v :: st) σ' (u + U2) (XI X K U Q9 QX)) : AW X K pc lv (zc :: zb :: za :: st) σ u (XI X K U Q9 QX) := by
  obtain ⟨p, l, e, R, s, m, args, below, meth, c⟩ := X
  obtain ⟨g, cy, A, nL, ρ, L⟩ := K
  obtain ⟨hx, hb, hml, hown, hts, hK, hnd, hD, hA, hlk, hret, hR, htr, hZ, hE⟩ := F
  subst hR
  obtain ⟨hE1, rfl⟩ := hE
  intro H locs ls hP hS hl
  have hf9 : ∀ q, Aof ρ Lall H.size q → A q := fun q h => h.elim (fun ⟨i, hi, he⟩ => he ▸ wsA_D hD i hi) (fun h => hA q (Nat.le_trans hS.1 h))
  have hM := hc l g cy ρ H.size htr
  refine vx_calli (vx_runS (As := [za, zb, zc].map (cv ρ)) (rest := st.map (cv ρ)) ⟨hx, hb, hml, hown, hts⟩ hM (hl9.cw hts hdd) ⟨WRs_blind, fun V hV hW => ⟨rfl, WRs_call hK hD hA hZ hP hS hV hW⟩⟩ rfl rfl hl.1 rfl (lv_room (Nat.le_trans (st_cat st) hst)) hd ⟨hu, by show 64 * u + 64 * U2 ≤ 64 * U; omega⟩) hS (fun q _ h => hf9 q h) hf9 (fun q _ h => hf9 q h) (fun E ce q9 u9 t9 H1 locs1 ht hvm _ hB hz1 hk1 hS1 hce hv hcl => ?_) (fun v9 u9 t9 H1 locs1 ht hvm hw hB hz1 hk1 hS1 => ?_)
  · obtain ⟨hB0, hB1, hB2⟩ := hB
    refine vx_out (fun x hx => absurd (hE1 rfl x hx) id) hlk hce hv hcl (fun t' ht' hvm' => ⟨u9, trivial, ⟨hx2 E u9 hB0, ?_, va_K.moved hvm' hK⟩, hS1.F ht'⟩) hS1.2.2 hu (by show 64 * u + 64 * U2 ≤ 64 * U; omega)
    rw [ht', ← ht]
    exact hB1
  · obtain ⟨hw1, hw2⟩ := hw
    subst hw1
    have hP1 : va_P g vwCl (wsOf ρ cy Lall u9.2) H1 := by rw [← ht]; exact hB.1
    rw [show 64 * u + 64 * U2 = 64 * (u + U2) by omega]
    exact k u9.1 u9.2 hw2 H1 locs1 ls hP1 hS1 hl
theorem aw_xcallSIV3 {za zb zc : AV} {Q2 : Int → Hp → Prop} {QX2 QX : String → Hp → Prop} {Q9 : Hp → Prop} (F : Fx X K cc own ret d U true) (hd : decode cc pc = .ok (.invokestatic idx, 3)) (hl9 : MLS own idx y bc mL ry 3) (hc : CxI d2 U2 y bc mL ry [za, zb, zc] σ Q2 QX2) (hst : stW st ≤ 8) (hdd : d2 + 1 ≤ d) (hu : u + U2 ≤ U) (hx2 : ∀ (E : String) (σ' : Hp), QX2 E σ' → QX E σ') (k : ∀ (v : Int) (σ' : Hp), Q2 v σ' → AW X K (pc + 3) lv (aI v :: st) σ' (u + U2) (XV X K U Q9 QX)) : AW X K pc lv (zc :: zb :: za :: st) σ u (XV X K U Q9 QX) := by
  obtain ⟨p, l, e, R, s, m, args, below, meth, c⟩ := X
  obtain ⟨g, cy, A, nL, ρ, L⟩ := K
  obtain ⟨hx, hb, hml, hown, hts, hK, hnd, hD, hA, hlk, hret, hR, htr, hZ, hE⟩ := F
  subst hR
  obtain ⟨hE1, rfl⟩ := hE
  intro H locs ls hP hS hl
  have hf9 : ∀ q, Aof ρ Lall H.size q → A q := fun q h => h.elim (fun ⟨i, hi, he⟩ => he ▸ wsA_D hD i hi) (fun h => hA q (Nat.le_trans hS.1 h))
  have hM := hc l g cy ρ H.size htr
  refine vx_calli (vx_runS (As := [za, zb, zc].map (cv ρ)) (rest := st.map (cv ρ)) ⟨hx, hb, hml, hown, hts⟩ hM (hl9.cw hts hdd) ⟨WRs_blind, fun V hV hW => ⟨rfl, WRs_call hK hD hA hZ hP hS hV hW⟩⟩ rfl rfl hl.1 rfl (lv_room (Nat.le_trans (st_cat st) hst)) hd ⟨hu, by show 64 * u + 64 * U2 ≤ 64 * U; omega⟩) hS (fun q _ h => hf9 q h) hf9 (fun q _ h => hf9 q h) (fun E ce q9 u9 t9 H1 locs1 ht hvm _ hB hz1 hk1 hS1 hce hv hcl => ?_) (fun v9 u9 t9 H1 locs1 ht hvm hw hB hz1 hk1 hS1 => ?_)
  · obtain ⟨hB0, hB1, hB2⟩ := hB
    refine vx_out (fun x hx => absurd (hE1 rfl x hx) id) hlk hce hv hcl (fun t' ht' hvm' => ⟨u9, trivial, ⟨hx2 E u9 hB0, ?_, va_K.moved hvm' hK⟩, hS1.F ht'⟩) hS1.2.2 hu (by show 64 * u + 64 * U2 ≤ 64 * U; omega)
    rw [ht', ← ht]
    exact hB1
  · obtain ⟨hw1, hw2⟩ := hw
    subst hw1
    have hP1 : va_P g vwCl (wsOf ρ cy Lall u9.2) H1 := by rw [← ht]; exact hB.1
    rw [show 64 * u + 64 * U2 = 64 * (u + U2) by omega]
    exact k u9.1 u9.2 hw2 H1 locs1 ls hP1 hS1 hl
theorem aw_callSV3 {za zb zc : AV} {Q2 : Hp → Prop} (F : Fx X K cc own ret d U tb) (hd : decode cc pc = .ok (.invokestatic idx, 3)) (hl9 : MLS own idx y bc mL ry 3) (hc : CtV d2 0 y bc mL ry [za, zb, zc] σ Q2) (hst : stW st ≤ 8) (hdd : d2 + 1 ≤ d) (hu : u ≤ U) (k : ∀ (σ' : Hp), Q2 σ' → AW X K (pc + 3) lv st σ' u Q) : AW X K pc lv (zc :: zb :: za :: st) σ u Q := by
  obtain ⟨p, l, e, R, s, m, args, below, meth, c⟩ := X
  obtain ⟨g, cy, A, nL, ρ, L⟩ := K
  obtain ⟨hx, hb, hml, hown, hts, hK, hnd, hD, hA, hlk, hret, hR, htr, hZ, hE⟩ := F
  subst hR
  obtain ⟨hE1, rfl⟩ := hE
  intro H locs ls hP hS hl
  have hf9 : ∀ q, Aof ρ Lall H.size q → A q := fun q h => h.elim (fun ⟨i, hi, he⟩ => he ▸ wsA_D hD i hi) (fun h => hA q (Nat.le_trans hS.1 h))
  have hM := hc l g cy ρ H.size htr
  refine va_callv (va_runS (As := [za, zb, zc].map (cv ρ)) (rest := st.map (cv ρ)) ⟨hx, hb, hml, hown, hts⟩ hM (hl9.cw hts hdd) ⟨WRs_blind, fun V hV hW => ⟨rfl, WRs_call hK hD hA hZ hP hS hV hW⟩⟩ rfl rfl hl.1 rfl (lv_room (Nat.le_trans (st_cat st) hst)) hd ⟨hu, by show 64 * u + 64 * 0 ≤ 64 * U; omega⟩) hS (fun q _ h => hf9 q h) hf9 (fun u9 t9 H1 locs1 ht hvm hw hB hz1 hk1 hS1 => ?_)
  have hP1 : va_P g vwCl (wsOf ρ cy Lall u9) H1 := by rw [← ht]; exact hB.1
  exact k u9 hw H1 locs1 ls hP1 hS1 hl
theorem aw_xcallSVI3 {za zb zc : AV} {Q2 : Hp → Prop} {QX2 QX : String → Hp → Prop} {Q9 : Int → Hp → Prop} (F : Fx X K cc own ret d U true) (hd : decode cc pc = .ok (.invokestatic idx, 3)) (hl9 : MLS own idx y bc mL ry 3) (hc : CxV d2 U2 y bc mL ry [za, zb, zc] σ Q2 QX2) (hst : stW st ≤ 8) (hdd : d2 + 1 ≤ d) (hu : u + U2 ≤ U) (hx2 : ∀ (E : String) (σ' : Hp), QX2 E σ' → QX E σ') (k : ∀ (σ' : Hp), Q2 σ' → AW X K (pc + 3) lv st σ' (u + U2) (XI X K U Q9 QX)) : AW X K pc lv (zc :: zb :: za :: st) σ u (XI X K U Q9 QX) := by
  obtain ⟨p, l, e, R, s, m, args, below, meth, c⟩ := X
  obtain ⟨g, cy, A, nL, ρ, L⟩ := K
  obtain ⟨hx, hb, hml, hown, hts, hK, hnd, hD, hA, hlk, hret, hR, htr, hZ, hE⟩ := F
  subst hR
  obtain ⟨hE1, rfl⟩ := hE
  intro H locs ls hP hS hl
  have hf9 : ∀ q, Aof ρ Lall H.size q → A q := fun q h => h.elim (fun ⟨i, hi, he⟩ => he ▸ wsA_D hD i hi) (fun h => hA q (Nat.le_trans hS.1 h))
  have hM := hc l g cy ρ H.size htr
  refine vx_callv (vx_runS (As := [za, zb, zc].map (cv ρ)) (rest := st.map (cv ρ)) ⟨hx, hb, hml, hown, hts⟩ hM (hl9.cw hts hdd) ⟨WRs_blind, fun V hV hW => ⟨rfl, WRs_call hK hD hA hZ hP hS hV hW⟩⟩ rfl rfl hl.1 rfl (lv_room (Nat.le_trans (st_cat st) hst)) hd ⟨hu, by show 64 * u + 64 * U2 ≤ 64 * U; omega⟩) hS (fun q _ h => hf9 q h) hf9 (fun q _ h => hf9 q h) (fun E ce q9 u9 t9 H1 locs1 ht hvm _ hB hz1 hk1 hS1 hce hv hcl => ?_) (fun u9 t9 H1 locs1 ht hvm hw hB hz1 hk1 hS1 => ?_)
  · obtain ⟨hB0, hB1, hB2⟩ := hB
    refine vx_out (fun x hx => absurd (hE1 rfl x hx) id) hlk hce hv hcl (fun t' ht' hvm' => ⟨u9, trivial, ⟨hx2 E u9 hB0, ?_, va_K.moved hvm' hK⟩, hS1.F ht'⟩) hS1.2.2 hu (by show 64 * u + 64 * U2 ≤ 64 * U; omega)
    rw [ht', ← ht]
    exact hB1
  · have hP1 : va_P g vwCl (wsOf ρ cy Lall u9) H1 := by rw [← ht]; exact hB.1
    rw [show 64 * u + 64 * U2 = 64 * (u + U2) by omega]
    exact k u9 hw H1 locs1 ls hP1 hS1 hl
theorem aw_xcallSVV3 {za zb zc : AV} {Q2 : Hp → Prop} {QX2 QX : String → Hp → Prop} {Q9 : Hp → Prop} (F : Fx X K cc own ret d U true) (hd : decode cc pc = .ok (.invokestatic idx, 3)) (hl9 : MLS own idx y bc mL ry 3) (hc : CxV d2 U2 y bc mL ry [za, zb, zc] σ Q2 QX2) (hst : stW st ≤ 8) (hdd : d2 + 1 ≤ d) (hu : u + U2 ≤ U) (hx2 : ∀ (E : String) (σ' : Hp), QX2 E σ' → QX E σ') (k : ∀ (σ' : Hp), Q2 σ' → AW X K (pc + 3) lv st σ' (u + U2) (XV X K U Q9 QX)) : AW X K pc lv (zc :: zb :: za :: st) σ u (XV X K U Q9 QX) := by
  obtain ⟨p, l, e, R, s, m, args, below, meth, c⟩ := X
  obtain ⟨g, cy, A, nL, ρ, L⟩ := K
  obtain ⟨hx, hb, hml, hown, hts, hK, hnd, hD, hA, hlk, hret, hR, htr, hZ, hE⟩ := F
  subst hR
  obtain ⟨hE1, rfl⟩ := hE
  intro H locs ls hP hS hl
  have hf9 : ∀ q, Aof ρ Lall H.size q → A q := fun q h => h.elim (fun ⟨i, hi, he⟩ => he ▸ wsA_D hD i hi) (fun h => hA q (Nat.le_trans hS.1 h))
  have hM := hc l g cy ρ H.size htr
  refine vx_callv (vx_runS (As := [za, zb, zc].map (cv ρ)) (rest := st.map (cv ρ)) ⟨hx, hb, hml, hown, hts⟩ hM (hl9.cw hts hdd) ⟨WRs_blind, fun V hV hW => ⟨rfl, WRs_call hK hD hA hZ hP hS hV hW⟩⟩ rfl rfl hl.1 rfl (lv_room (Nat.le_trans (st_cat st) hst)) hd ⟨hu, by show 64 * u + 64 * U2 ≤ 64 * U; omega⟩) hS (fun q _ h => hf9 q h) hf9 (fun q _ h => hf9 q h) (fun E ce q9 u9 t9 H1 locs1 ht hvm _ hB hz1 hk1 hS1 hce hv hcl => ?_) (fun u9 t9 H1 locs1 ht hvm hw hB hz1 hk1 hS1 => ?_)
  · obtain ⟨hB0, hB1, hB2⟩ := hB
    refine vx_out (fun x hx => absurd (hE1 rfl x hx) id) hlk hce hv hcl (fun t' ht' hvm' => ⟨u9, trivial, ⟨hx2 E u9 hB0, ?_, va_K.moved hvm' hK⟩, hS1.F ht'⟩) hS1.2.2 hu (by show 64 * u + 64 * U2 ≤ 64 * U; omega)
    rw [ht', ← ht]
    exact hB1
  · have hP1 : va_P g vwCl (wsOf ρ cy Lall u9) H1 := by rw [← ht]; exact hB.1
    rw [show 64 * u + 64 * U2 = 64 * (u + U2) by omega]
    exact k u9 hw H1 locs1 ls hP1 hS1 hl
theorem aw_callSI4 {za zb zc zd : AV} {Q2 : Int → Hp → Prop} (F : Fx X K cc own ret d U tb) (hd : decode cc pc = .ok (.invokestatic idx, 3)) (hl9 : MLS own idx y bc mL ry 4) (hc : CtI d2 0 y bc mL ry [za, zb, zc, zd] σ Q2) (hst : stW st ≤ 8) (hdd : d2 + 1 ≤ d) (hu : u ≤ U) (k : ∀ (v : Int) (σ' : Hp), Q2 v σ' → AW X K (pc + 3) lv (aI v :: st) σ' u Q) : AW X K pc lv (zd :: zc :: zb :: za :: st) σ u Q := by
  obtain ⟨p, l, e, R, s, m, args, below, meth, c⟩ := X
  obtain ⟨g, cy, A, nL, ρ, L⟩ := K
  obtain ⟨hx, hb, hml, hown, hts, hK, hnd, hD, hA, hlk, hret, hR, htr, hZ, hE⟩ := F
  subst hR
  obtain ⟨hE1, rfl⟩ := hE
  intro H locs ls hP hS hl
  have hf9 : ∀ q, Aof ρ Lall H.size q → A q := fun q h => h.elim (fun ⟨i, hi, he⟩ => he ▸ wsA_D hD i hi) (fun h => hA q (Nat.le_trans hS.1 h))
  have hM := hc l g cy ρ H.size htr
  refine va_calli (va_runS (As := [za, zb, zc, zd].map (cv ρ)) (rest := st.map (cv ρ)) ⟨hx, hb, hml, hown, hts⟩ hM (hl9.cw hts hdd) ⟨WRs_blind, fun V hV hW => ⟨rfl, WRs_call hK hD hA hZ hP hS hV hW⟩⟩ rfl rfl hl.1 rfl (lv_room (Nat.le_trans (st_cat st) hst)) hd ⟨hu, by show 64 * u + 64 * 0 ≤ 64 * U; omega⟩) hS (fun q _ h => hf9 q h) hf9 (fun v9 u9 t9 H1 locs1 ht hvm hw hB hz1 hk1 hS1 => ?_)
  obtain ⟨hw1, hw2⟩ := hw
  subst hw1
  have hP1 : va_P g vwCl (wsOf ρ cy Lall u9.2) H1 := by rw [← ht]; exact hB.1
  exact k u9.1 u9.2 hw2 H1 locs1 ls hP1 hS1 hl
theorem aw_pcallS4 {za zb zc zd : AV} {e9 : Int} (F : Fx X K cc own ret d U tb) (hd : decode cc pc = .ok (.invokestatic idx, 3)) (hl9 : MLS own idx y bc mL ry 4) (hc : CtI d2 0 y bc mL ry [za, zb, zc, zd] σ (PU σ e9)) (hst : stW st ≤ 8) (hdd : d2 + 1 ≤ d) (hu : u ≤ U) (k : AW X K (pc + 3) lv (aI e9 :: st) σ u Q) : AW X K pc lv (zd :: zc :: zb :: za :: st) σ u Q :=
  aw_callSI4 F hd hl9 hc hst hdd hu (fun v9 s9 h => by obtain ⟨rfl, rfl⟩ := h; exact k)
theorem aw_xcallSII4 {za zb zc zd : AV} {Q2 : Int → Hp → Prop} {QX2 QX : String → Hp → Prop} {Q9 : Int → Hp → Prop} (F : Fx X K cc own ret d U true) (hd : decode cc pc = .ok (.invokestatic idx, 3)) (hl9 : MLS own idx y bc mL ry 4) (hc : CxI d2 U2 y bc mL ry [za, zb, zc, zd] σ Q2 QX2) (hst : stW st ≤ 8) (hdd : d2 + 1 ≤ d) (hu : u + U2 ≤ U) (hx2 : ∀ (E : String) (σ' : Hp), QX2 E σ' → QX E σ') (k : ∀ (v : Int) (σ' : Hp), Q2 v σ' → AW X K (pc + 3) lv (aI v :: st) σ' (u + U2) (XI X K U Q9 QX)) : AW X K pc lv (zd :: zc :: zb :: za :: st) σ u (XI X K U Q9 QX) := by
  obtain ⟨p, l, e, R, s, m, args, below, meth, c⟩ := X
  obtain ⟨g, cy, A, nL, ρ, L⟩ := K
  obtain ⟨hx, hb, hml, hown, hts, hK, hnd, hD, hA, hlk, hret, hR, htr, hZ, hE⟩ := F
  subst hR
  obtain ⟨hE1, rfl⟩ := hE
  intro H locs ls hP hS hl
  have hf9 : ∀ q, Aof ρ Lall H.size q → A q := fun q h => h.elim (fun ⟨i, hi, he⟩ => he ▸ wsA_D hD i hi) (fun h => hA q (Nat.le_trans hS.1 h))
  have hM := hc l g cy ρ H.size htr
  refine vx_calli (vx_runS (As := [za, zb, zc, zd].map (cv ρ)) (rest := st.map (cv ρ)) ⟨hx, hb, hml, hown, hts⟩ hM (hl9.cw hts hdd) ⟨WRs_blind, fun V hV hW => ⟨rfl, WRs_call hK hD hA hZ hP hS hV hW⟩⟩ rfl rfl hl.1 rfl (lv_room (Nat.le_trans (st_cat st) hst)) hd ⟨hu, by show 64 * u + 64 * U2 ≤ 64 * U; omega⟩) hS (fun q _ h => hf9 q h) hf9 (fun q _ h => hf9 q h) (fun E ce q9 u9 t9 H1 locs1 ht hvm _ hB hz1 hk1 hS1 hce hv hcl => ?_) (fun v9 u9 t9 H1 locs1 ht hvm hw hB hz1 hk1 hS1 => ?_)
  · obtain ⟨hB0, hB1, hB2⟩ := hB
    refine vx_out (fun x hx => absurd (hE1 rfl x hx) id) hlk hce hv hcl (fun t' ht' hvm' => ⟨u9, trivial, ⟨hx2 E u9 hB0, ?_, va_K.moved hvm' hK⟩, hS1.F ht'⟩) hS1.2.2 hu (by show 64 * u + 64 * U2 ≤ 64 * U; omega)
    rw [ht', ← ht]
    exact hB1
  · obtain ⟨hw1, hw2⟩ := hw
    subst hw1
    have hP1 : va_P g vwCl (wsOf ρ cy Lall u9.2) H1 := by rw [← ht]; exact hB.1
    rw [show 64 * u + 64 * U2 = 64 * (u + U2) by omega]
    exact k u9.1 u9.2 hw2 H1 locs1 ls hP1 hS1 hl
theorem aw_xcallSIV4 {za zb zc zd : AV} {Q2 : Int → Hp → Prop} {QX2 QX : String → Hp → Prop} {Q9 : Hp → Prop} (F : Fx X K cc own ret d U true) (hd : decode cc pc = .ok (.invokestatic idx, 3)) (hl9 : MLS own idx y bc mL ry 4) (hc : CxI d2 U2 y bc mL ry [za, zb, zc, zd] σ Q2 QX2) (hst : stW st ≤ 8) (hdd : d2 + 1 ≤ d) (hu : u + U2 ≤ U) (hx2 : ∀ (E : String) (σ' : Hp), QX2 E σ' → QX E σ') (k : ∀ (v : Int) (σ' : Hp), Q2 v σ' → AW X K (pc + 3) lv (aI v :: st) σ' (u + U2) (XV X K U Q9 QX)) : AW X K pc lv (zd :: zc :: zb :: za :: st) σ u (XV X K U Q9 QX) := by
  obtain ⟨p, l, e, R, s, m, args, below, meth, c⟩ := X
  obtain ⟨g, cy, A, nL, ρ, L⟩ := K
  obtain ⟨hx, hb, hml, hown, hts, hK, hnd, hD, hA, hlk, hret, hR, htr, hZ, hE⟩ := F
  subst hR
  obtain ⟨hE1, rfl⟩ := hE
  intro H locs ls hP hS hl
  have hf9 : ∀ q, Aof ρ Lall H.size q → A q := fun q h => h.elim (fun ⟨i, hi, he⟩ => he ▸ wsA_D hD i hi) (fun h => hA q (Nat.le_trans hS.1 h))
  have hM := hc l g cy ρ H.size htr
  refine vx_calli (vx_runS (As := [za, zb, zc, zd].map (cv ρ)) (rest := st.map (cv ρ)) ⟨hx, hb, hml, hown, hts⟩ hM (hl9.cw hts hdd) ⟨WRs_blind, fun V hV hW => ⟨rfl, WRs_call hK hD hA hZ hP hS hV hW⟩⟩ rfl rfl hl.1 rfl (lv_room (Nat.le_trans (st_cat st) hst)) hd ⟨hu, by show 64 * u + 64 * U2 ≤ 64 * U; omega⟩) hS (fun q _ h => hf9 q h) hf9 (fun q _ h => hf9 q h) (fun E ce q9 u9 t9 H1 locs1 ht hvm _ hB hz1 hk1 hS1 hce hv hcl => ?_) (fun v9 u9 t9 H1 locs1 ht hvm hw hB hz1 hk1 hS1 => ?_)
  · obtain ⟨hB0, hB1, hB2⟩ := hB
    refine vx_out (fun x hx => absurd (hE1 rfl x hx) id) hlk hce hv hcl (fun t' ht' hvm' => ⟨u9, trivial, ⟨hx2 E u9 hB0, ?_, va_K.moved hvm' hK⟩, hS1.F ht'⟩) hS1.2.2 hu (by show 64 * u + 64 * U2 ≤ 64 * U; omega)
    rw [ht', ← ht]
    exact hB1
  · obtain ⟨hw1, hw2⟩ := hw
    subst hw1
    have hP1 : va_P g vwCl (wsOf ρ cy Lall u9.2) H1 := by rw [← ht]; exact hB.1
    rw [show 64 * u + 64 * U2 = 64 * (u + U2) by omega]
    exact k u9.1 u9.2 hw2 H1 locs1 ls hP1 hS1 hl
theorem aw_callSV4 {za zb zc zd : AV} {Q2 : Hp → Prop} (F : Fx X K cc own ret d U tb) (hd : decode cc pc = .ok (.invokestatic idx, 3)) (hl9 : MLS own idx y bc mL ry 4) (hc : CtV d2 0 y bc mL ry [za, zb, zc, zd] σ Q2) (hst : stW st ≤ 8) (hdd : d2 + 1 ≤ d) (hu : u ≤ U) (k : ∀ (σ' : Hp), Q2 σ' → AW X K (pc + 3) lv st σ' u Q) : AW X K pc lv (zd :: zc :: zb :: za :: st) σ u Q := by
  obtain ⟨p, l, e, R, s, m, args, below, meth, c⟩ := X
  obtain ⟨g, cy, A, nL, ρ, L⟩ := K
  obtain ⟨hx, hb, hml, hown, hts, hK, hnd, hD, hA, hlk, hret, hR, htr, hZ, hE⟩ := F
  subst hR
  obtain ⟨hE1, rfl⟩ := hE
  intro H locs ls hP hS hl
  have hf9 : ∀ q, Aof ρ Lall H.size q → A q := fun q h => h.elim (fun ⟨i, hi, he⟩ => he ▸ wsA_D hD i hi) (fun h => hA q (Nat.le_trans hS.1 h))
  have hM := hc l g cy ρ H.size htr
  refine va_callv (va_runS (As := [za, zb, zc, zd].map (cv ρ)) (rest := st.map (cv ρ)) ⟨hx, hb, hml, hown, hts⟩ hM (hl9.cw hts hdd) ⟨WRs_blind, fun V hV hW => ⟨rfl, WRs_call hK hD hA hZ hP hS hV hW⟩⟩ rfl rfl hl.1 rfl (lv_room (Nat.le_trans (st_cat st) hst)) hd ⟨hu, by show 64 * u + 64 * 0 ≤ 64 * U; omega⟩) hS (fun q _ h => hf9 q h) hf9 (fun u9 t9 H1 locs1 ht hvm hw hB hz1 hk1 hS1 => ?_)
  have hP1 : va_P g vwCl (wsOf ρ cy Lall u9) H1 := by rw [← ht]; exact hB.1
  exact k u9 hw H1 locs1 ls hP1 hS1 hl
theorem aw_xcallSVI4 {za zb zc zd : AV} {Q2 : Hp → Prop} {QX2 QX : String → Hp → Prop} {Q9 : Int → Hp → Prop} (F : Fx X K cc own ret d U true) (hd : decode cc pc = .ok (.invokestatic idx, 3)) (hl9 : MLS own idx y bc mL ry 4) (hc : CxV d2 U2 y bc mL ry [za, zb, zc, zd] σ Q2 QX2) (hst : stW st ≤ 8) (hdd : d2 + 1 ≤ d) (hu : u + U2 ≤ U) (hx2 : ∀ (E : String) (σ' : Hp), QX2 E σ' → QX E σ') (k : ∀ (σ' : Hp), Q2 σ' → AW X K (pc + 3) lv st σ' (u + U2) (XI X K U Q9 QX)) : AW X K pc lv (zd :: zc :: zb :: za :: st) σ u (XI X K U Q9 QX) := by
  obtain ⟨p, l, e, R, s, m, args, below, meth, c⟩ := X
  obtain ⟨g, cy, A, nL, ρ, L⟩ := K
  obtain ⟨hx, hb, hml, hown, hts, hK, hnd, hD, hA, hlk, hret, hR, htr, hZ, hE⟩ := F
  subst hR
  obtain ⟨hE1, rfl⟩ := hE
  intro H locs ls hP hS hl
  have hf9 : ∀ q, Aof ρ Lall H.size q → A q := fun q h => h.elim (fun ⟨i, hi, he⟩ => he ▸ wsA_D hD i hi) (fun h => hA q (Nat.le_trans hS.1 h))
  have hM := hc l g cy ρ H.size htr
  refine vx_callv (vx_runS (As := [za, zb, zc, zd].map (cv ρ)) (rest := st.map (cv ρ)) ⟨hx, hb, hml, hown, hts⟩ hM (hl9.cw hts hdd) ⟨WRs_blind, fun V hV hW => ⟨rfl, WRs_call hK hD hA hZ hP hS hV hW⟩⟩ rfl rfl hl.1 rfl (lv_room (Nat.le_trans (st_cat st) hst)) hd ⟨hu, by show 64 * u + 64 * U2 ≤ 64 * U; omega⟩) hS (fun q _ h => hf9 q h) hf9 (fun q _ h => hf9 q h) (fun E ce q9 u9 t9 H1 locs1 ht hvm _ hB hz1 hk1 hS1 hce hv hcl => ?_) (fun u9 t9 H1 locs1 ht hvm hw hB hz1 hk1 hS1 => ?_)
  · obtain ⟨hB0, hB1, hB2⟩ := hB
    refine vx_out (fun x hx => absurd (hE1 rfl x hx) id) hlk hce hv hcl (fun t' ht' hvm' => ⟨u9, trivial, ⟨hx2 E u9 hB0, ?_, va_K.moved hvm' hK⟩, hS1.F ht'⟩) hS1.2.2 hu (by show 64 * u + 64 * U2 ≤ 64 * U; omega)
    rw [ht', ← ht]
    exact hB1
  · have hP1 : va_P g vwCl (wsOf ρ cy Lall u9) H1 := by rw [← ht]; exact hB.1
    rw [show 64 * u + 64 * U2 = 64 * (u + U2) by omega]
    exact k u9 hw H1 locs1 ls hP1 hS1 hl
theorem aw_xcallSVV4 {za zb zc zd : AV} {Q2 : Hp → Prop} {QX2 QX : String → Hp → Prop} {Q9 : Hp → Prop} (F : Fx X K cc own ret d U true) (hd : decode cc pc = .ok (.invokestatic idx, 3)) (hl9 : MLS own idx y bc mL ry 4) (hc : CxV d2 U2 y bc mL ry [za, zb, zc, zd] σ Q2 QX2) (hst : stW st ≤ 8) (hdd : d2 + 1 ≤ d) (hu : u + U2 ≤ U) (hx2 : ∀ (E : String) (σ' : Hp), QX2 E σ' → QX E σ') (k : ∀ (σ' : Hp), Q2 σ' → AW X K (pc + 3) lv st σ' (u + U2) (XV X K U Q9 QX)) : AW X K pc lv (zd :: zc :: zb :: za :: st) σ u (XV X K U Q9 QX) := by
  obtain ⟨p, l, e, R, s, m, args, below, meth, c⟩ := X
  obtain ⟨g, cy, A, nL, ρ, L⟩ := K
  obtain ⟨hx, hb, hml, hown, hts, hK, hnd, hD, hA, hlk, hret, hR, htr, hZ, hE⟩ := F
  subst hR
  obtain ⟨hE1, rfl⟩ := hE
  intro H locs ls hP hS hl
  have hf9 : ∀ q, Aof ρ Lall H.size q → A q := fun q h => h.elim (fun ⟨i, hi, he⟩ => he ▸ wsA_D hD i hi) (fun h => hA q (Nat.le_trans hS.1 h))
  have hM := hc l g cy ρ H.size htr
  refine vx_callv (vx_runS (As := [za, zb, zc, zd].map (cv ρ)) (rest := st.map (cv ρ)) ⟨hx, hb, hml, hown, hts⟩ hM (hl9.cw hts hdd) ⟨WRs_blind, fun V hV hW => ⟨rfl, WRs_call hK hD hA hZ hP hS hV hW⟩⟩ rfl rfl hl.1 rfl (lv_room (Nat.le_trans (st_cat st) hst)) hd ⟨hu, by show 64 * u + 64 * U2 ≤ 64 * U; omega⟩) hS (fun q _ h => hf9 q h) hf9 (fun q _ h => hf9 q h) (fun E ce q9 u9 t9 H1 locs1 ht hvm _ hB hz1 hk1 hS1 hce hv hcl => ?_) (fun u9 t9 H1 locs1 ht hvm hw hB hz1 hk1 hS1 => ?_)
  · obtain ⟨hB0, hB1, hB2⟩ := hB
    refine vx_out (fun x hx => absurd (hE1 rfl x hx) id) hlk hce hv hcl (fun t' ht' hvm' => ⟨u9, trivial, ⟨hx2 E u9 hB0, ?_, va_K.moved hvm' hK⟩, hS1.F ht'⟩) hS1.2.2 hu (by show 64 * u + 64 * U2 ≤ 64 * U; omega)
    rw [ht', ← ht]
    exact hB1
  · have hP1 : va_P g vwCl (wsOf ρ cy Lall u9) H1 := by rw [← ht]; exact hB.1
    rw [show 64 * u + 64 * U2 = 64 * (u + U2) by omega]
    exact k u9 hw H1 locs1 ls hP1 hS1 hl
theorem aw_callSI5 {za zb zc zd ze : AV} {Q2 : Int → Hp → Prop} (F : Fx X K cc own ret d U tb) (hd : decode cc pc = .ok (.invokestatic idx, 3)) (hl9 : MLS own idx y bc mL ry 5) (hc : CtI d2 0 y bc mL ry [za, zb, zc, zd, ze] σ Q2) (hst : stW st ≤ 8) (hdd : d2 + 1 ≤ d) (hu : u ≤ U) (k : ∀ (v : Int) (σ' : Hp), Q2 v σ' → AW X K (pc + 3) lv (aI v :: st) σ' u Q) : AW X K pc lv (ze :: zd :: zc :: zb :: za :: st) σ u Q := by
  obtain ⟨p, l, e, R, s, m, args, below, meth, c⟩ := X
  obtain ⟨g, cy, A, nL, ρ, L⟩ := K
  obtain ⟨hx, hb, hml, hown, hts, hK, hnd, hD, hA, hlk, hret, hR, htr, hZ, hE⟩ := F
  subst hR
  obtain ⟨hE1, rfl⟩ := hE
  intro H locs ls hP hS hl
  have hf9 : ∀ q, Aof ρ Lall H.size q → A q := fun q h => h.elim (fun ⟨i, hi, he⟩ => he ▸ wsA_D hD i hi) (fun h => hA q (Nat.le_trans hS.1 h))
  have hM := hc l g cy ρ H.size htr
  refine va_calli (va_runS (As := [za, zb, zc, zd, ze].map (cv ρ)) (rest := st.map (cv ρ)) ⟨hx, hb, hml, hown, hts⟩ hM (hl9.cw hts hdd) ⟨WRs_blind, fun V hV hW => ⟨rfl, WRs_call hK hD hA hZ hP hS hV hW⟩⟩ rfl rfl hl.1 rfl (lv_room (Nat.le_trans (st_cat st) hst)) hd ⟨hu, by show 64 * u + 64 * 0 ≤ 64 * U; omega⟩) hS (fun q _ h => hf9 q h) hf9 (fun v9 u9 t9 H1 locs1 ht hvm hw hB hz1 hk1 hS1 => ?_)
  obtain ⟨hw1, hw2⟩ := hw
  subst hw1
  have hP1 : va_P g vwCl (wsOf ρ cy Lall u9.2) H1 := by rw [← ht]; exact hB.1
  exact k u9.1 u9.2 hw2 H1 locs1 ls hP1 hS1 hl
theorem aw_pcallS5 {za zb zc zd ze : AV} {e9 : Int} (F : Fx X K cc own ret d U tb) (hd : decode cc pc = .ok (.invokestatic idx, 3)) (hl9 : MLS own idx y bc mL ry 5) (hc : CtI d2 0 y bc mL ry [za, zb, zc, zd, ze] σ (PU σ e9)) (hst : stW st ≤ 8) (hdd : d2 + 1 ≤ d) (hu : u ≤ U) (k : AW X K (pc + 3) lv (aI e9 :: st) σ u Q) : AW X K pc lv (ze :: zd :: zc :: zb :: za :: st) σ u Q :=
  aw_callSI5 F hd hl9 hc hst hdd hu (fun v9 s9 h => by obtain ⟨rfl, rfl⟩ := h; exact k)
theorem aw_xcallSII5 {za zb zc zd ze : AV} {Q2 : Int → Hp → Prop} {QX2 QX : String → Hp → Prop} {Q9 : Int → Hp → Prop} (F : Fx X K cc own ret d U true) (hd : decode cc pc = .ok (.invokestatic idx, 3)) (hl9 : MLS own idx y bc mL ry 5) (hc : CxI d2 U2 y bc mL ry [za, zb, zc, zd, ze] σ Q2 QX2) (hst : stW st ≤ 8) (hdd : d2 + 1 ≤ d) (hu : u + U2 ≤ U) (hx2 : ∀ (E : String) (σ' : Hp), QX2 E σ' → QX E σ') (k : ∀ (v : Int) (σ' : Hp), Q2 v σ' → AW X K (pc + 3) lv (aI v :: st) σ' (u + U2) (XI X K U Q9 QX)) : AW X K pc lv (ze :: zd :: zc :: zb :: za :: st) σ u (XI X K U Q9 QX) := by
  obtain ⟨p, l, e, R, s, m, args, below, meth, c⟩ := X
  obtain ⟨g, cy, A, nL, ρ, L⟩ := K
  obtain ⟨hx, hb, hml, hown, hts, hK, hnd, hD, hA, hlk, hret, hR, htr, hZ, hE⟩ := F
  subst hR
  obtain ⟨hE1, rfl⟩ := hE
  intro H locs ls hP hS hl
  have hf9 : ∀ q, Aof ρ Lall H.size q → A q := fun q h => h.elim (fun ⟨i, hi, he⟩ => he ▸ wsA_D hD i hi) (fun h => hA q (Nat.le_trans hS.1 h))
  have hM := hc l g cy ρ H.size htr
  refine vx_calli (vx_runS (As := [za, zb, zc, zd, ze].map (cv ρ)) (rest := st.map (cv ρ)) ⟨hx, hb, hml, hown, hts⟩ hM (hl9.cw hts hdd) ⟨WRs_blind, fun V hV hW => ⟨rfl, WRs_call hK hD hA hZ hP hS hV hW⟩⟩ rfl rfl hl.1 rfl (lv_room (Nat.le_trans (st_cat st) hst)) hd ⟨hu, by show 64 * u + 64 * U2 ≤ 64 * U; omega⟩) hS (fun q _ h => hf9 q h) hf9 (fun q _ h => hf9 q h) (fun E ce q9 u9 t9 H1 locs1 ht hvm _ hB hz1 hk1 hS1 hce hv hcl => ?_) (fun v9 u9 t9 H1 locs1 ht hvm hw hB hz1 hk1 hS1 => ?_)
  · obtain ⟨hB0, hB1, hB2⟩ := hB
    refine vx_out (fun x hx => absurd (hE1 rfl x hx) id) hlk hce hv hcl (fun t' ht' hvm' => ⟨u9, trivial, ⟨hx2 E u9 hB0, ?_, va_K.moved hvm' hK⟩, hS1.F ht'⟩) hS1.2.2 hu (by show 64 * u + 64 * U2 ≤ 64 * U; omega)
    rw [ht', ← ht]
    exact hB1
  · obtain ⟨hw1, hw2⟩ := hw
    subst hw1
    have hP1 : va_P g vwCl (wsOf ρ cy Lall u9.2) H1 := by rw [← ht]; exact hB.1
    rw [show 64 * u + 64 * U2 = 64 * (u + U2) by omega]
    exact k u9.1 u9.2 hw2 H1 locs1 ls hP1 hS1 hl
theorem aw_xcallSIV5 {za zb zc zd ze : AV} {Q2 : Int → Hp → Prop} {QX2 QX : String → Hp → Prop} {Q9 : Hp → Prop} (F : Fx X K cc own ret d U true) (hd : decode cc pc = .ok (.invokestatic idx, 3)) (hl9 : MLS own idx y bc mL ry 5) (hc : CxI d2 U2 y bc mL ry [za, zb, zc, zd, ze] σ Q2 QX2) (hst : stW st ≤ 8) (hdd : d2 + 1 ≤ d) (hu : u + U2 ≤ U) (hx2 : ∀ (E : String) (σ' : Hp), QX2 E σ' → QX E σ') (k : ∀ (v : Int) (σ' : Hp), Q2 v σ' → AW X K (pc + 3) lv (aI v :: st) σ' (u + U2) (XV X K U Q9 QX)) : AW X K pc lv (ze :: zd :: zc :: zb :: za :: st) σ u (XV X K U Q9 QX) := by
  obtain ⟨p, l, e, R, s, m, args, below, meth, c⟩ := X
  obtain ⟨g, cy, A, nL, ρ, L⟩ := K
  obtain ⟨hx, hb, hml, hown, hts, hK, hnd, hD, hA, hlk, hret, hR, htr, hZ, hE⟩ := F
  subst hR
  obtain ⟨hE1, rfl⟩ := hE
  intro H locs ls hP hS hl
  have hf9 : ∀ q, Aof ρ Lall H.size q → A q := fun q h => h.elim (fun ⟨i, hi, he⟩ => he ▸ wsA_D hD i hi) (fun h => hA q (Nat.le_trans hS.1 h))
  have hM := hc l g cy ρ H.size htr
  refine vx_calli (vx_runS (As := [za, zb, zc, zd, ze].map (cv ρ)) (rest := st.map (cv ρ)) ⟨hx, hb, hml, hown, hts⟩ hM (hl9.cw hts hdd) ⟨WRs_blind, fun V hV hW => ⟨rfl, WRs_call hK hD hA hZ hP hS hV hW⟩⟩ rfl rfl hl.1 rfl (lv_room (Nat.le_trans (st_cat st) hst)) hd ⟨hu, by show 64 * u + 64 * U2 ≤ 64 * U; omega⟩) hS (fun q _ h => hf9 q h) hf9 (fun q _ h => hf9 q h) (fun E ce q9 u9 t9 H1 locs1 ht hvm _ hB hz1 hk1 hS1 hce hv hcl => ?_) (fun v9 u9 t9 H1 locs1 ht hvm hw hB hz1 hk1 hS1 => ?_)
  · obtain ⟨hB0, hB1, hB2⟩ := hB
    refine vx_out (fun x hx => absurd (hE1 rfl x hx) id) hlk hce hv hcl (fun t' ht' hvm' => ⟨u9, trivial, ⟨hx2 E u9 hB0, ?_, va_K.moved hvm' hK⟩, hS1.F ht'⟩) hS1.2.2 hu (by show 64 * u + 64 * U2 ≤ 64 * U; omega)
    rw [ht', ← ht]
    exact hB1
  · obtain ⟨hw1, hw2⟩ := hw
    subst hw1
    have hP1 : va_P g vwCl (wsOf ρ cy Lall u9.2) H1 := by rw [← ht]; exact hB.1
    rw [show 64 * u + 64 * U2 = 64 * (u + U2) by omega]
    exact k u9.1 u9.2 hw2 H1 locs1 ls hP1 hS1 hl
theorem aw_callSV5 {za zb zc zd ze : AV} {Q2 : Hp → Prop} (F : Fx X K cc own ret d U tb) (hd : decode cc pc = .ok (.invokestatic idx, 3)) (hl9 : MLS own idx y bc mL ry 5) (hc : CtV d2 0 y bc mL ry [za, zb, zc, zd, ze] σ Q2) (hst : stW st ≤ 8) (hdd : d2 + 1 ≤ d) (hu : u ≤ U) (k : ∀ (σ' : Hp), Q2 σ' → AW X K (pc + 3) lv st σ' u Q) : AW X K pc lv (ze :: zd :: zc :: zb :: za :: st) σ u Q := by
  obtain ⟨p, l, e, R, s, m, args, below, meth, c⟩ := X
  obtain ⟨g, cy, A, nL, ρ, L⟩ := K
  obtain ⟨hx, hb, hml, hown, hts, hK, hnd, hD, hA, hlk, hret, hR, htr, hZ, hE⟩ := F
  subst hR
  obtain ⟨hE1, rfl⟩ := hE
  intro H locs ls hP hS hl
  have hf9 : ∀ q, Aof ρ Lall H.size q → A q := fun q h => h.elim (fun ⟨i, hi, he⟩ => he ▸ wsA_D hD i hi) (fun h => hA q (Nat.le_trans hS.1 h))
  have hM := hc l g cy ρ H.size htr
  refine va_callv (va_runS (As := [za, zb, zc, zd, ze].map (cv ρ)) (rest := st.map (cv ρ)) ⟨hx, hb, hml, hown, hts⟩ hM (hl9.cw hts hdd) ⟨WRs_blind, fun V hV hW => ⟨rfl, WRs_call hK hD hA hZ hP hS hV hW⟩⟩ rfl rfl hl.1 rfl (lv_room (Nat.le_trans (st_cat st) hst)) hd ⟨hu, by show 64 * u + 64 * 0 ≤ 64 * U; omega⟩) hS (fun q _ h => hf9 q h) hf9 (fun u9 t9 H1 locs1 ht hvm hw hB hz1 hk1 hS1 => ?_)
  have hP1 : va_P g vwCl (wsOf ρ cy Lall u9) H1 := by rw [← ht]; exact hB.1
  exact k u9 hw H1 locs1 ls hP1 hS1 hl
theorem aw_xcallSVI5 {za zb zc zd ze : AV} {Q2 : Hp → Prop} {QX2 QX : String → Hp → Prop} {Q9 : Int → Hp → Prop} (F : Fx X K cc own ret d U true) (hd : decode cc pc = .ok (.invokestatic idx, 3)) (hl9 : MLS own idx y bc mL ry 5) (hc : CxV d2 U2 y bc mL ry [za, zb, zc, zd, ze] σ Q2 QX2) (hst : stW st ≤ 8) (hdd : d2 + 1 ≤ d) (hu : u + U2 ≤ U) (hx2 : ∀ (E : String) (σ' : Hp), QX2 E σ' → QX E σ') (k : ∀ (σ' : Hp), Q2 σ' → AW X K (pc + 3) lv st σ' (u + U2) (XI X K U Q9 QX)) : AW X K pc lv (ze :: zd :: zc :: zb :: za :: st) σ u (XI X K U Q9 QX) := by
  obtain ⟨p, l, e, R, s, m, args, below, meth, c⟩ := X
  obtain ⟨g, cy, A, nL, ρ, L⟩ := K
  obtain ⟨hx, hb, hml, hown, hts, hK, hnd, hD, hA, hlk, hret, hR, htr, hZ, hE⟩ := F
  subst hR
  obtain ⟨hE1, rfl⟩ := hE
  intro H locs ls hP hS hl
  have hf9 : ∀ q, Aof ρ Lall H.size q → A q := fun q h => h.elim (fun ⟨i, hi, he⟩ => he ▸ wsA_D hD i hi) (fun h => hA q (Nat.le_trans hS.1 h))
  have hM := hc l g cy ρ H.size htr
  refine vx_callv (vx_runS (As := [za, zb, zc, zd, ze].map (cv ρ)) (rest := st.map (cv ρ)) ⟨hx, hb, hml, hown, hts⟩ hM (hl9.cw hts hdd) ⟨WRs_blind, fun V hV hW => ⟨rfl, WRs_call hK hD hA hZ hP hS hV hW⟩⟩ rfl rfl hl.1 rfl (lv_room (Nat.le_trans (st_cat st) hst)) hd ⟨hu, by show 64 * u + 64 * U2 ≤ 64 * U; omega⟩) hS (fun q _ h => hf9 q h) hf9 (fun q _ h => hf9 q h) (fun E ce q9 u9 t9 H1 locs1 ht hvm _ hB hz1 hk1 hS1 hce hv hcl => ?_) (fun u9 t9 H1 locs1 ht hvm hw hB hz1 hk1 hS1 => ?_)
  · obtain ⟨hB0, hB1, hB2⟩ := hB
    refine vx_out (fun x hx => absurd (hE1 rfl x hx) id) hlk hce hv hcl (fun t' ht' hvm' => ⟨u9, trivial, ⟨hx2 E u9 hB0, ?_, va_K.moved hvm' hK⟩, hS1.F ht'⟩) hS1.2.2 hu (by show 64 * u + 64 * U2 ≤ 64 * U; omega)
    rw [ht', ← ht]
    exact hB1
  · have hP1 : va_P g vwCl (wsOf ρ cy Lall u9) H1 := by rw [← ht]; exact hB.1
    rw [show 64 * u + 64 * U2 = 64 * (u + U2) by omega]
    exact k u9 hw H1 locs1 ls hP1 hS1 hl
theorem aw_xcallSVV5 {za zb zc zd ze : AV} {Q2 : Hp → Prop} {QX2 QX : String → Hp → Prop} {Q9 : Hp → Prop} (F : Fx X K cc own ret d U true) (hd : decode cc pc = .ok (.invokestatic idx, 3)) (hl9 : MLS own idx y bc mL ry 5) (hc : CxV d2 U2 y bc mL ry [za, zb, zc, zd, ze] σ Q2 QX2) (hst : stW st ≤ 8) (hdd : d2 + 1 ≤ d) (hu : u + U2 ≤ U) (hx2 : ∀ (E : String) (σ' : Hp), QX2 E σ' → QX E σ') (k : ∀ (σ' : Hp), Q2 σ' → AW X K (pc + 3) lv st σ' (u + U2) (XV X K U Q9 QX)) : AW X K pc lv (ze :: zd :: zc :: zb :: za :: st) σ u (XV X K U Q9 QX) := by
  obtain ⟨p, l, e, R, s, m, args, below, meth, c⟩ := X
  obtain ⟨g, cy, A, nL, ρ, L⟩ := K
  obtain ⟨hx, hb, hml, hown, hts, hK, hnd, hD, hA, hlk, hret, hR, htr, hZ, hE⟩ := F
  subst hR
  obtain ⟨hE1, rfl⟩ := hE
  intro H locs ls hP hS hl
  have hf9 : ∀ q, Aof ρ Lall H.size q → A q := fun q h => h.elim (fun ⟨i, hi, he⟩ => he ▸ wsA_D hD i hi) (fun h => hA q (Nat.le_trans hS.1 h))
  have hM := hc l g cy ρ H.size htr
  refine vx_callv (vx_runS (As := [za, zb, zc, zd, ze].map (cv ρ)) (rest := st.map (cv ρ)) ⟨hx, hb, hml, hown, hts⟩ hM (hl9.cw hts hdd) ⟨WRs_blind, fun V hV hW => ⟨rfl, WRs_call hK hD hA hZ hP hS hV hW⟩⟩ rfl rfl hl.1 rfl (lv_room (Nat.le_trans (st_cat st) hst)) hd ⟨hu, by show 64 * u + 64 * U2 ≤ 64 * U; omega⟩) hS (fun q _ h => hf9 q h) hf9 (fun q _ h => hf9 q h) (fun E ce q9 u9 t9 H1 locs1 ht hvm _ hB hz1 hk1 hS1 hce hv hcl => ?_) (fun u9 t9 H1 locs1 ht hvm hw hB hz1 hk1 hS1 => ?_)
  · obtain ⟨hB0, hB1, hB2⟩ := hB
    refine vx_out (fun x hx => absurd (hE1 rfl x hx) id) hlk hce hv hcl (fun t' ht' hvm' => ⟨u9, trivial, ⟨hx2 E u9 hB0, ?_, va_K.moved hvm' hK⟩, hS1.F ht'⟩) hS1.2.2 hu (by show 64 * u + 64 * U2 ≤ 64 * U; omega)
    rw [ht', ← ht]
    exact hB1
  · have hP1 : va_P g vwCl (wsOf ρ cy Lall u9) H1 := by rw [← ht]; exact hB.1
    rw [show 64 * u + 64 * U2 = 64 * (u + U2) by omega]
    exact k u9 hw H1 locs1 ls hP1 hS1 hl
theorem aw_callSI6 {za zb zc zd ze zf : AV} {Q2 : Int → Hp → Prop} (F : Fx X K cc own ret d U tb) (hd : decode cc pc = .ok (.invokestatic idx, 3)) (hl9 : MLS own idx y bc mL ry 6) (hc : CtI d2 0 y bc mL ry [za, zb, zc, zd, ze, zf] σ Q2) (hst : stW st ≤ 8) (hdd : d2 + 1 ≤ d) (hu : u ≤ U) (k : ∀ (v : Int) (σ' : Hp), Q2 v σ' → AW X K (pc + 3) lv (aI v :: st) σ' u Q) : AW X K pc lv (zf :: ze :: zd :: zc :: zb :: za :: st) σ u Q := by
  obtain ⟨p, l, e, R, s, m, args, below, meth, c⟩ := X
  obtain ⟨g, cy, A, nL, ρ, L⟩ := K
  obtain ⟨hx, hb, hml, hown, hts, hK, hnd, hD, hA, hlk, hret, hR, htr, hZ, hE⟩ := F
  subst hR
  obtain ⟨hE1, rfl⟩ := hE
  intro H locs ls hP hS hl
  have hf9 : ∀ q, Aof ρ Lall H.size q → A q := fun q h => h.elim (fun ⟨i, hi, he⟩ => he ▸ wsA_D hD i hi) (fun h => hA q (Nat.le_trans hS.1 h))
  have hM := hc l g cy ρ H.size htr
  refine va_calli (va_runS (As := [za, zb, zc, zd, ze, zf].map (cv ρ)) (rest := st.map (cv ρ)) ⟨hx, hb, hml, hown, hts⟩ hM (hl9.cw hts hdd) ⟨WRs_blind, fun V hV hW => ⟨rfl, WRs_call hK hD hA hZ hP hS hV hW⟩⟩ rfl rfl hl.1 rfl (lv_room (Nat.le_trans (st_cat st) hst)) hd ⟨hu, by show 64 * u + 64 * 0 ≤ 64 * U; omega⟩) hS (fun q _ h => hf9 q h) hf9 (fun v9 u9 t9 H1 locs1 ht hvm hw hB hz1 hk1 hS1 => ?_)
  obtain ⟨hw1, hw2⟩ := hw
  subst hw1
  have hP1 : va_P g vwCl (wsOf ρ cy Lall u9.2) H1 := by rw [← ht]; exact hB.1
  exact k u9.1 u9.2 hw2 H1 locs1 ls hP1 hS1 hl
theorem aw_pcallS6 {za zb zc zd ze zf : AV} {e9 : Int} (F : Fx X K cc own ret d U tb) (hd : decode cc pc = .ok (.invokestatic idx, 3)) (hl9 : MLS own idx y bc mL ry 6) (hc : CtI d2 0 y bc mL ry [za, zb, zc, zd, ze, zf] σ (PU σ e9)) (hst : stW st ≤ 8) (hdd : d2 + 1 ≤ d) (hu : u ≤ U) (k : AW X K (pc + 3) lv (aI e9 :: st) σ u Q) : AW X K pc lv (zf :: ze :: zd :: zc :: zb :: za :: st) σ u Q :=
  aw_callSI6 F hd hl9 hc hst hdd hu (fun v9 s9 h => by obtain ⟨rfl, rfl⟩ := h; exact k)
theorem aw_xcallSII6 {za zb zc zd ze zf : AV} {Q2 : Int → Hp → Prop} {QX2 QX : String → Hp → Prop} {Q9 : Int → Hp → Prop} (F : Fx X K cc own ret d U true) (hd : decode cc pc = .ok (.invokestatic idx, 3)) (hl9 : MLS own idx y bc mL ry 6) (hc : CxI d2 U2 y bc mL ry [za, zb, zc, zd, ze, zf] σ Q2 QX2) (hst : stW st ≤ 8) (hdd : d2 + 1 ≤ d) (hu : u + U2 ≤ U) (hx2 : ∀ (E : String) (σ' : Hp), QX2 E σ' → QX E σ') (k : ∀ (v : Int) (σ' : Hp), Q2 v σ' → AW X K (pc + 3) lv (aI v :: st) σ' (u + U2) (XI X K U Q9 QX)) : AW X K pc lv (zf :: ze :: zd :: zc :: zb :: za :: st) σ u (XI X K U Q9 QX) := by
  obtain ⟨p, l, e, R, s, m, args, below, meth, c⟩ := X
  obtain ⟨g, cy, A, nL, ρ, L⟩ := K
  obtain ⟨hx, hb, hml, hown, hts, hK, hnd, hD, hA, hlk, hret, hR, htr, hZ, hE⟩ := F
  subst hR
  obtain ⟨hE1, rfl⟩ := hE
  intro H locs ls hP hS hl
  have hf9 : ∀ q, Aof ρ Lall H.size q → A q := fun q h => h.elim (fun ⟨i, hi, he⟩ => he ▸ wsA_D hD i hi) (fun h => hA q (Nat.le_trans hS.1 h))
  have hM := hc l g cy ρ H.size htr
  refine vx_calli (vx_runS (As := [za, zb, zc, zd, ze, zf].map (cv ρ)) (rest := st.map (cv ρ)) ⟨hx, hb, hml, hown, hts⟩ hM (hl9.cw hts hdd) ⟨WRs_blind, fun V hV hW => ⟨rfl, WRs_call hK hD hA hZ hP hS hV hW⟩⟩ rfl rfl hl.1 rfl (lv_room (Nat.le_trans (st_cat st) hst)) hd ⟨hu, by show 64 * u + 64 * U2 ≤ 64 * U; omega⟩) hS (fun q _ h => hf9 q h) hf9 (fun q _ h => hf9 q h) (fun E ce q9 u9 t9 H1 locs1 ht hvm _ hB hz1 hk1 hS1 hce hv hcl => ?_) (fun v9 u9 t9 H1 locs1 ht hvm hw hB hz1 hk1 hS1 => ?_)
  · obtain ⟨hB0, hB1, hB2⟩ := hB
    refine vx_out (fun x hx => absurd (hE1 rfl x hx) id) hlk hce hv hcl (fun t' ht' hvm' => ⟨u9, trivial, ⟨hx2 E u9 hB0, ?_, va_K.moved hvm' hK⟩, hS1.F ht'⟩) hS1.2.2 hu (by show 64 * u + 64 * U2 ≤ 64 * U; omega)
    rw [ht', ← ht]
    exact hB1
  · obtain ⟨hw1, hw2⟩ := hw
    subst hw1
    have hP1 : va_P g vwCl (wsOf ρ cy Lall u9.2) H1 := by rw [← ht]; exact hB.1
    rw [show 64 * u + 64 * U2 = 64 * (u + U2) by omega]
    exact k u9.1 u9.2 hw2 H1 locs1 ls hP1 hS1 hl
theorem aw_xcallSIV6 {za zb zc zd ze zf : AV} {Q2 : Int → Hp → Prop} {QX2 QX : String → Hp → Prop} {Q9 : Hp → Prop} (F : Fx X K cc own ret d U true) (hd : decode cc pc = .ok (.invokestatic idx, 3)) (hl9 : MLS own idx y bc mL ry 6) (hc : CxI d2 U2 y bc mL ry [za, zb, zc, zd, ze, zf] σ Q2 QX2) (hst : stW st ≤ 8) (hdd : d2 + 1 ≤ d) (hu : u + U2 ≤ U) (hx2 : ∀ (E : String) (σ' : Hp), QX2 E σ' → QX E σ') (k : ∀ (v : Int) (σ' : Hp), Q2 v σ' → AW X K (pc + 3) lv (aI v :: st) σ' (u + U2) (XV X K U Q9 QX)) : AW X K pc lv (zf :: ze :: zd :: zc :: zb :: za :: st) σ u (XV X K U Q9 QX) := by
  obtain ⟨p, l, e, R, s, m, args, below, meth, c⟩ := X
  obtain ⟨g, cy, A, nL, ρ, L⟩ := K
  obtain ⟨hx, hb, hml, hown, hts, hK, hnd, hD, hA, hlk, hret, hR, htr, hZ, hE⟩ := F
  subst hR
  obtain ⟨hE1, rfl⟩ := hE
  intro H locs ls hP hS hl
  have hf9 : ∀ q, Aof ρ Lall H.size q → A q := fun q h => h.elim (fun ⟨i, hi, he⟩ => he ▸ wsA_D hD i hi) (fun h => hA q (Nat.le_trans hS.1 h))
  have hM := hc l g cy ρ H.size htr
  refine vx_calli (vx_runS (As := [za, zb, zc, zd, ze, zf].map (cv ρ)) (rest := st.map (cv ρ)) ⟨hx, hb, hml, hown, hts⟩ hM (hl9.cw hts hdd) ⟨WRs_blind, fun V hV hW => ⟨rfl, WRs_call hK hD hA hZ hP hS hV hW⟩⟩ rfl rfl hl.1 rfl (lv_room (Nat.le_trans (st_cat st) hst)) hd ⟨hu, by show 64 * u + 64 * U2 ≤ 64 * U; omega⟩) hS (fun q _ h => hf9 q h) hf9 (fun q _ h => hf9 q h) (fun E ce q9 u9 t9 H1 locs1 ht hvm _ hB hz1 hk1 hS1 hce hv hcl => ?_) (fun v9 u9 t9 H1 locs1 ht hvm hw hB hz1 hk1 hS1 => ?_)
  · obtain ⟨hB0, hB1, hB2⟩ := hB
    refine vx_out (fun x hx => absurd (hE1 rfl x hx) id) hlk hce hv hcl (fun t' ht' hvm' => ⟨u9, trivial, ⟨hx2 E u9 hB0, ?_, va_K.moved hvm' hK⟩, hS1.F ht'⟩) hS1.2.2 hu (by show 64 * u + 64 * U2 ≤ 64 * U; omega)
    rw [ht', ← ht]
    exact hB1
  · obtain ⟨hw1, hw2⟩ := hw
    subst hw1
    have hP1 : va_P g vwCl (wsOf ρ cy Lall u9.2) H1 := by rw [← ht]; exact hB.1
    rw [show 64 * u + 64 * U2 = 64 * (u + U2) by omega]
    exact k u9.1 u9.2 hw2 H1 locs1 ls hP1 hS1 hl
theorem aw_callSV6 {za zb zc zd ze zf : AV} {Q2 : Hp → Prop} (F : Fx X K cc own ret d U tb) (hd : decode cc pc = .ok (.invokestatic idx, 3)) (hl9 : MLS own idx y bc mL ry 6) (hc : CtV d2 0 y bc mL ry [za, zb, zc, zd, ze, zf] σ Q2) (hst : stW st ≤ 8) (hdd : d2 + 1 ≤ d) (hu : u ≤ U) (k : ∀ (σ' : Hp), Q2 σ' → AW X K (pc + 3) lv st σ' u Q) : AW X K pc lv (zf :: ze :: zd :: zc :: zb :: za :: st) σ u Q := by
  obtain ⟨p, l, e, R, s, m, args, below, meth, c⟩ := X
  obtain ⟨g, cy, A, nL, ρ, L⟩ := K
  obtain ⟨hx, hb, hml, hown, hts, hK, hnd, hD, hA, hlk, hret, hR, htr, hZ, hE⟩ := F
  subst hR
  obtain ⟨hE1, rfl⟩ := hE
  intro H locs ls hP hS hl
  have hf9 : ∀ q, Aof ρ Lall H.size q → A q := fun q h => h.elim (fun ⟨i, hi, he⟩ => he ▸ wsA_D hD i hi) (fun h => hA q (Nat.le_trans hS.1 h))
  have hM := hc l g cy ρ H.size htr
  refine va_callv (va_runS (As := [za, zb, zc, zd, ze, zf].map (cv ρ)) (rest := st.map (cv ρ)) ⟨hx, hb, hml, hown, hts⟩ hM (hl9.cw hts hdd) ⟨WRs_blind, fun V hV hW => ⟨rfl, WRs_call hK hD hA hZ hP hS hV hW⟩⟩ rfl rfl hl.1 rfl (lv_room (Nat.le_trans (st_cat st) hst)) hd ⟨hu, by show 64 * u + 64 * 0 ≤ 64 * U; omega⟩) hS (fun q _ h => hf9 q h) hf9 (fun u9 t9 H1 locs1 ht hvm hw hB hz1 hk1 hS1 => ?_)
  have hP1 : va_P g vwCl (wsOf ρ cy Lall u9) H1 := by rw [← ht]; exact hB.1
  exact k u9 hw H1 locs1 ls hP1 hS1 hl
theorem aw_xcallSVI6 {za zb zc zd ze zf : AV} {Q2 : Hp → Prop} {QX2 QX : String → Hp → Prop} {Q9 : Int → Hp → Prop} (F : Fx X K cc own ret d U true) (hd : decode cc pc = .ok (.invokestatic idx, 3)) (hl9 : MLS own idx y bc mL ry 6) (hc : CxV d2 U2 y bc mL ry [za, zb, zc, zd, ze, zf] σ Q2 QX2) (hst : stW st ≤ 8) (hdd : d2 + 1 ≤ d) (hu : u + U2 ≤ U) (hx2 : ∀ (E : String) (σ' : Hp), QX2 E σ' → QX E σ') (k : ∀ (σ' : Hp), Q2 σ' → AW X K (pc + 3) lv st σ' (u + U2) (XI X K U Q9 QX)) : AW X K pc lv (zf :: ze :: zd :: zc :: zb :: za :: st) σ u (XI X K U Q9 QX) := by
  obtain ⟨p, l, e, R, s, m, args, below, meth, c⟩ := X
  obtain ⟨g, cy, A, nL, ρ, L⟩ := K
  obtain ⟨hx, hb, hml, hown, hts, hK, hnd, hD, hA, hlk, hret, hR, htr, hZ, hE⟩ := F
  subst hR
  obtain ⟨hE1, rfl⟩ := hE
  intro H locs ls hP hS hl
  have hf9 : ∀ q, Aof ρ Lall H.size q → A q := fun q h => h.elim (fun ⟨i, hi, he⟩ => he ▸ wsA_D hD i hi) (fun h => hA q (Nat.le_trans hS.1 h))
  have hM := hc l g cy ρ H.size htr
  refine vx_callv (vx_runS (As := [za, zb, zc, zd, ze, zf].map (cv ρ)) (rest := st.map (cv ρ)) ⟨hx, hb, hml, hown, hts⟩ hM (hl9.cw hts hdd) ⟨WRs_blind, fun V hV hW => ⟨rfl, WRs_call hK hD hA hZ hP hS hV hW⟩⟩ rfl rfl hl.1 rfl (lv_room (Nat.le_trans (st_cat st) hst)) hd ⟨hu, by show 64 * u + 64 * U2 ≤ 64 * U; omega⟩) hS (fun q _ h => hf9 q h) hf9 (fun q _ h => hf9 q h) (fun E ce q9 u9 t9 H1 locs1 ht hvm _ hB hz1 hk1 hS1 hce hv hcl => ?_) (fun u9 t9 H1 locs1 ht hvm hw hB hz1 hk1 hS1 => ?_)
  · obtain ⟨hB0, hB1, hB2⟩ := hB
    refine vx_out (fun x hx => absurd (hE1 rfl x hx) id) hlk hce hv hcl (fun t' ht' hvm' => ⟨u9, trivial, ⟨hx2 E u9 hB0, ?_, va_K.moved hvm' hK⟩, hS1.F ht'⟩) hS1.2.2 hu (by show 64 * u + 64 * U2 ≤ 64 * U; omega)
    rw [ht', ← ht]
    exact hB1
  · have hP1 : va_P g vwCl (wsOf ρ cy Lall u9) H1 := by rw [← ht]; exact hB.1
    rw [show 64 * u + 64 * U2 = 64 * (u + U2) by omega]
    exact k u9 hw H1 locs1 ls hP1 hS1 hl
theorem aw_xcallSVV6 {za zb zc zd ze zf : AV} {Q2 : Hp → Prop} {QX2 QX : String → Hp → Prop} {Q9 : Hp → Prop} (F : Fx X K cc own ret d U true) (hd : decode cc pc = .ok (.invokestatic idx, 3)) (hl9 : MLS own idx y bc mL ry 6) (hc : CxV d2 U2 y bc mL ry [za, zb, zc, zd, ze, zf] σ Q2 QX2) (hst : stW st ≤ 8) (hdd : d2 + 1 ≤ d) (hu : u + U2 ≤ U) (hx2 : ∀ (E : String) (σ' : Hp), QX2 E σ' → QX E σ') (k : ∀ (σ' : Hp), Q2 σ' → AW X K (pc + 3) lv st σ' (u + U2) (XV X K U Q9 QX)) : AW X K pc lv (zf :: ze :: zd :: zc :: zb :: za :: st) σ u (XV X K U Q9 QX) := by
  obtain ⟨p, l, e, R, s, m, args, below, meth, c⟩ := X
  obtain ⟨g, cy, A, nL, ρ, L⟩ := K
  obtain ⟨hx, hb, hml, hown, hts, hK, hnd, hD, hA, hlk, hret, hR, htr, hZ, hE⟩ := F
  subst hR
  obtain ⟨hE1, rfl⟩ := hE
  intro H locs ls hP hS hl
  have hf9 : ∀ q, Aof ρ Lall H.size q → A q := fun q h => h.elim (fun ⟨i, hi, he⟩ => he ▸ wsA_D hD i hi) (fun h => hA q (Nat.le_trans hS.1 h))
  have hM := hc l g cy ρ H.size htr
  refine vx_callv (vx_runS (As := [za, zb, zc, zd, ze, zf].map (cv ρ)) (rest := st.map (cv ρ)) ⟨hx, hb, hml, hown, hts⟩ hM (hl9.cw hts hdd) ⟨WRs_blind, fun V hV hW => ⟨rfl, WRs_call hK hD hA hZ hP hS hV hW⟩⟩ rfl rfl hl.1 rfl (lv_room (Nat.le_trans (st_cat st) hst)) hd ⟨hu, by show 64 * u + 64 * U2 ≤ 64 * U; omega⟩) hS (fun q _ h => hf9 q h) hf9 (fun q _ h => hf9 q h) (fun E ce q9 u9 t9 H1 locs1 ht hvm _ hB hz1 hk1 hS1 hce hv hcl => ?_) (fun u9 t9 H1 locs1 ht hvm hw hB hz1 hk1 hS1 => ?_)
  · obtain ⟨hB0, hB1, hB2⟩ := hB
    refine vx_out (fun x hx => absurd (hE1 rfl x hx) id) hlk hce hv hcl (fun t' ht' hvm' => ⟨u9, trivial, ⟨hx2 E u9 hB0, ?_, va_K.moved hvm' hK⟩, hS1.F ht'⟩) hS1.2.2 hu (by show 64 * u + 64 * U2 ≤ 64 * U; omega)
    rw [ht', ← ht]
    exact hB1
  · have hP1 : va_P g vwCl (wsOf ρ cy Lall u9) H1 := by rw [← ht]; exact hB.1
    rw [show 64 * u + 64 * U2 = 64 * (u + U2) by omega]
    exact k u9 hw H1 locs1 ls hP1 hS1 hl
theorem aw_callNI1 {za : AV} {host : String} {Q2 : Int → Hp → Prop} (F : Fx X K cc own ret d U tb) (hd : decode cc pc = .ok (.invokestatic idx, 3)) (hl9 : MLN own idx host y bc mL ry 1) (hc : CtI d2 0 y bc mL ry [za] σ Q2) (hst : stW st ≤ 8) (hdd : d2 + 1 ≤ d) (hu : u ≤ U) (k : ∀ (v : Int) (σ' : Hp), Q2 v σ' → AW X K (pc + 3) lv (aI v :: st) σ' u Q) : AW X K pc lv (za :: st) σ u Q := by
  obtain ⟨p, l, e, R, s, m, args, below, meth, c⟩ := X
  obtain ⟨g, cy, A, nL, ρ, L⟩ := K
  obtain ⟨hx, hb, hml, hown, hts, hK, hnd, hD, hA, hlk, hret, hR, htr, hZ, hE⟩ := F
  subst hR
  obtain ⟨hE1, rfl⟩ := hE
  intro H locs ls hP hS hl
  have hf9 : ∀ q, Aof ρ Lall H.size q → A q := fun q h => h.elim (fun ⟨i, hi, he⟩ => he ▸ wsA_D hD i hi) (fun h => hA q (Nat.le_trans hS.1 h))
  have hM := hc l g cy ρ H.size htr
  refine va_calli (va_runSN (As := [za].map (cv ρ)) (rest := st.map (cv ρ)) ⟨hx, hb, hml, hown, hts⟩ hM (hl9.cw hts hZ.2.2.1 hdd) ⟨WRs_blind, fun V hV hW => ⟨rfl, WRs_call hK hD hA hZ hP hS hV hW⟩⟩ rfl rfl hl.1 rfl (lv_room (Nat.le_trans (st_cat st) hst)) hd ⟨hu, by show 64 * u + 64 * 0 ≤ 64 * U; omega⟩) hS (fun q _ h => hf9 q h) hf9 (fun v9 u9 t9 H1 locs1 ht hvm hw hB hz1 hk1 hS1 => ?_)
  obtain ⟨hw1, hw2⟩ := hw
  subst hw1
  have hP1 : va_P g vwCl (wsOf ρ cy Lall u9.2) H1 := by rw [← ht]; exact hB.1
  exact k u9.1 u9.2 hw2 H1 locs1 ls hP1 hS1 hl
theorem aw_pcallN1 {za : AV} {host : String} {e9 : Int} (F : Fx X K cc own ret d U tb) (hd : decode cc pc = .ok (.invokestatic idx, 3)) (hl9 : MLN own idx host y bc mL ry 1) (hc : CtI d2 0 y bc mL ry [za] σ (PU σ e9)) (hst : stW st ≤ 8) (hdd : d2 + 1 ≤ d) (hu : u ≤ U) (k : AW X K (pc + 3) lv (aI e9 :: st) σ u Q) : AW X K pc lv (za :: st) σ u Q :=
  aw_callNI1 F hd hl9 hc hst hdd hu (fun v9 s9 h => by obtain ⟨rfl, rfl⟩ := h; exact k)
theorem aw_callNV1 {za : AV} {host : String} {Q2 : Hp → Prop} (F : Fx X K cc own ret d U tb) (hd : decode cc pc = .ok (.invokestatic idx, 3)) (hl9 : MLN own idx host y bc mL ry 1) (hc : CtV d2 0 y bc mL ry [za] σ Q2) (hst : stW st ≤ 8) (hdd : d2 + 1 ≤ d) (hu : u ≤ U) (k : ∀ (σ' : Hp), Q2 σ' → AW X K (pc + 3) lv st σ' u Q) : AW X K pc lv (za :: st) σ u Q := by
  obtain ⟨p, l, e, R, s, m, args, below, meth, c⟩ := X
  obtain ⟨g, cy, A, nL, ρ, L⟩ := K
  obtain ⟨hx, hb, hml, hown, hts, hK, hnd, hD, hA, hlk, hret, hR, htr, hZ, hE⟩ := F
  subst hR
  obtain ⟨hE1, rfl⟩ := hE
  intro H locs ls hP hS hl
  have hf9 : ∀ q, Aof ρ Lall H.size q → A q := fun q h => h.elim (fun ⟨i, hi, he⟩ => he ▸ wsA_D hD i hi) (fun h => hA q (Nat.le_trans hS.1 h))
  have hM := hc l g cy ρ H.size htr
  refine va_callv (va_runSN (As := [za].map (cv ρ)) (rest := st.map (cv ρ)) ⟨hx, hb, hml, hown, hts⟩ hM (hl9.cw hts hZ.2.2.1 hdd) ⟨WRs_blind, fun V hV hW => ⟨rfl, WRs_call hK hD hA hZ hP hS hV hW⟩⟩ rfl rfl hl.1 rfl (lv_room (Nat.le_trans (st_cat st) hst)) hd ⟨hu, by show 64 * u + 64 * 0 ≤ 64 * U; omega⟩) hS (fun q _ h => hf9 q h) hf9 (fun u9 t9 H1 locs1 ht hvm hw hB hz1 hk1 hS1 => ?_)
  have hP1 : va_P g vwCl (wsOf ρ cy Lall u9) H1 := by rw [← ht]; exact hB.1
  exact k u9 hw H1 locs1 ls hP1 hS1 hl
theorem aw_callNI2 {za zb : AV} {host : String} {Q2 : Int → Hp → Prop} (F : Fx X K cc own ret d U tb) (hd : decode cc pc = .ok (.invokestatic idx, 3)) (hl9 : MLN own idx host y bc mL ry 2) (hc : CtI d2 0 y bc mL ry [za, zb] σ Q2) (hst : stW st ≤ 8) (hdd : d2 + 1 ≤ d) (hu : u ≤ U) (k : ∀ (v : Int) (σ' : Hp), Q2 v σ' → AW X K (pc + 3) lv (aI v :: st) σ' u Q) : AW X K pc lv (zb :: za :: st) σ u Q := by
  obtain ⟨p, l, e, R, s, m, args, below, meth, c⟩ := X
  obtain ⟨g, cy, A, nL, ρ, L⟩ := K
  obtain ⟨hx, hb, hml, hown, hts, hK, hnd, hD, hA, hlk, hret, hR, htr, hZ, hE⟩ := F
  subst hR
  obtain ⟨hE1, rfl⟩ := hE
  intro H locs ls hP hS hl
  have hf9 : ∀ q, Aof ρ Lall H.size q → A q := fun q h => h.elim (fun ⟨i, hi, he⟩ => he ▸ wsA_D hD i hi) (fun h => hA q (Nat.le_trans hS.1 h))
  have hM := hc l g cy ρ H.size htr
  refine va_calli (va_runSN (As := [za, zb].map (cv ρ)) (rest := st.map (cv ρ)) ⟨hx, hb, hml, hown, hts⟩ hM (hl9.cw hts hZ.2.2.1 hdd) ⟨WRs_blind, fun V hV hW => ⟨rfl, WRs_call hK hD hA hZ hP hS hV hW⟩⟩ rfl rfl hl.1 rfl (lv_room (Nat.le_trans (st_cat st) hst)) hd ⟨hu, by show 64 * u + 64 * 0 ≤ 64 * U; omega⟩) hS (fun q _ h => hf9 q h) hf9 (fun v9 u9 t9 H1 locs1 ht hvm hw hB hz1 hk1 hS1 => ?_)
  obtain ⟨hw1, hw2⟩ := hw
  subst hw1
  have hP1 : va_P g vwCl (wsOf ρ cy Lall u9.2) H1 := by rw [← ht]; exact hB.1
  exact k u9.1 u9.2 hw2 H1 locs1 ls hP1 hS1 hl
theorem aw_pcallN2 {za zb : AV} {host : String} {e9 : Int} (F : Fx X K cc own ret d U tb) (hd : decode cc pc = .ok (.invokestatic idx, 3)) (hl9 : MLN own idx host y bc mL ry 2) (hc : CtI d2 0 y bc mL ry [za, zb] σ (PU σ e9)) (hst : stW st ≤ 8) (hdd : d2 + 1 ≤ d) (hu : u ≤ U) (k : AW X K (pc + 3) lv (aI e9 :: st) σ u Q) : AW X K pc lv (zb :: za :: st) σ u Q :=
  aw_callNI2 F hd hl9 hc hst hdd hu (fun v9 s9 h => by obtain ⟨rfl, rfl⟩ := h; exact k)
theorem aw_callNV2 {za zb : AV} {host : String} {Q2 : Hp → Prop} (F : Fx X K cc own ret d U tb) (hd : decode cc pc = .ok (.invokestatic idx, 3)) (hl9 : MLN own idx host y bc mL ry 2) (hc : CtV d2 0 y bc mL ry [za, zb] σ Q2) (hst : stW st ≤ 8) (hdd : d2 + 1 ≤ d) (hu : u ≤ U) (k : ∀ (σ' : Hp), Q2 σ' → AW X K (pc + 3) lv st σ' u Q) : AW X K pc lv (zb :: za :: st) σ u Q := by
  obtain ⟨p, l, e, R, s, m, args, below, meth, c⟩ := X
  obtain ⟨g, cy, A, nL, ρ, L⟩ := K
  obtain ⟨hx, hb, hml, hown, hts, hK, hnd, hD, hA, hlk, hret, hR, htr, hZ, hE⟩ := F
  subst hR
  obtain ⟨hE1, rfl⟩ := hE
  intro H locs ls hP hS hl
  have hf9 : ∀ q, Aof ρ Lall H.size q → A q := fun q h => h.elim (fun ⟨i, hi, he⟩ => he ▸ wsA_D hD i hi) (fun h => hA q (Nat.le_trans hS.1 h))
  have hM := hc l g cy ρ H.size htr
  refine va_callv (va_runSN (As := [za, zb].map (cv ρ)) (rest := st.map (cv ρ)) ⟨hx, hb, hml, hown, hts⟩ hM (hl9.cw hts hZ.2.2.1 hdd) ⟨WRs_blind, fun V hV hW => ⟨rfl, WRs_call hK hD hA hZ hP hS hV hW⟩⟩ rfl rfl hl.1 rfl (lv_room (Nat.le_trans (st_cat st) hst)) hd ⟨hu, by show 64 * u + 64 * 0 ≤ 64 * U; omega⟩) hS (fun q _ h => hf9 q h) hf9 (fun u9 t9 H1 locs1 ht hvm hw hB hz1 hk1 hS1 => ?_)
  have hP1 : va_P g vwCl (wsOf ρ cy Lall u9) H1 := by rw [← ht]; exact hB.1
  exact k u9 hw H1 locs1 ls hP1 hS1 hl
end CALLS
