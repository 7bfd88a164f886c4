/-! d7: methods that catch -/
def TBL (X : Cx) (hh : List (Nat × Nat × Nat × Nat)) : Prop := match X with
  | (_, _, _, _, _, _, _, _, _, c) => c.exceptionTable.toList = tableOf hh
/-- an exception of class E lies over the frame at pc -/
def YW (X : Cx) (K : Kx) (pc : Nat) (lv : List AV) (σ : Hp) (u : Nat) (E : String) (Q : State → Prop) : Prop :=
  match X, K with
  | (p, l, e, R, s, m, args, below, meth, c), (g, cy, A, nL, ρ, L) =>
    ∀ (H : Heap) (locs : List Loc) (ls : Array Slot) (ce : Cell) (q9 : Nat) (rest : List Value), va_P g vwCl (wsOf ρ cy L σ) H → va_S A s.heap H locs → LH ρ ls nL lv → H[q9]? = some ce → ce.vm = .none → s.vm.findClass E = some ce.cls → vx_W p l e R s m args below meth c H locs u (64 * u) Q (F0 m pc ls rest) q9
theorem met_ofWH {l : Launch} {y : MethodName} {ws ws' : List Cond} {rm : Room} {Pc : Array Value → State → Prop} {Qc : Array Value → State → Outcome → State → Prop} {mc ms : Nat} {free : Addr → Prop} {cc : ByteArray} {maxL : Nat} {ret : Option FieldType} {hh : List (Nat × Nat × Nat × Nat)}
    (hy : plainName y.cls = true) (hw : ws = Cond.codeWith y cc maxL ret hh :: ws')
    (body : ∀ p e s m args below meth c s₁, BodyLoose p l y (headSpec ws rm) cc maxL ret e s m args below meth c s₁ → c.maxLocals = maxL → Pc args s →
      W p l e (headSpec ws rm).room s m args below meth c s.heap [] 0 0 (MQ below Qc args s mc ms free) (entryFrame m args maxL)) : Met l y ws rm Pc Qc mc ms free := by
  refine MetFree.of_bodyS (code := cc) (maxLocals := maxL) (ret := ret) hy ?_ ?_
  · intro args s m h hn
    obtain ⟨m9, meth, c, hn9, h1, h2, h3, h4, -, h5, h6, -⟩ := Cond.codeWith_spec (atoms_spec (ws := ws) h _ (by rw [hw]; exact List.mem_cons_self))
    cases hn.symm.trans hn9
    exact ⟨meth, c, h1, h2, h3, h4, h5, h6⟩
  · intro p e s m args below meth c s₁ B hml hP _
    have hh0 : s₁.heap = s.heap := by rw [B.state]; rfl
    obtain ⟨t, a1, o, b1, b2, b3⟩ := body p e s m args below meth c s₁ B hml hP s₁ hh0 (Stand.of_body B)
    exact ⟨t, o, a1, b1, b2, b3⟩
def CtH (d U : Nat) (y : MethodName) (bc : ByteArray) (mL : Nat) (ret : Option FieldType) (hh : List (Nat × Nat × Nat × Nat)) (args : List AV) (σ : Hp) (Q : Int → Hp → Prop) : Prop :=
  ∀ (l : Launch) (g : va_G) (cy : Nat → ClassId) (ρ : Id4 → Nat) (sz : Nat), l.stackTraces = false → Met l y (Cond.codeWith y bc mL ret hh :: Gw) (rmOf d U) (PC g cy ρ σ sz args) (QI g cy ρ (Aof ρ Lall sz) Q) U (64 * U) (Aof ρ Lall sz)
theorem CtH.mk {d U : Nat} {y : MethodName} {bc : ByteArray} {mL : Nat} {ret : Option FieldType} {hh : List (Nat × Nat × Nat × Nat)} {args : List AV} {σ : Hp} {Q : Int → Hp → Prop} (hy : plainName y.cls = true) (hw : narrowArgs args = true) (hn : args.length ≤ mL) (h : ∀ (X : Cx) (K : Kx), Fx X K bc y.cls ret d U false → TBL X hh → K.2.2.2.1 = mL → AW X K 0 (args ++ List.replicate (mL - args.length) aX) [] σ 0 (EI X K U Q)) : CtH d U y bc mL ret hh args σ Q := by
  intro l g cy ρ sz htr
  refine met_ofWH (cc := bc) (maxL := mL) (ret := ret) (hh := hh) hy rfl ?_
  intro p e s m args' below meth c s₁ B hml hv
  obtain ⟨rfl, hsz, hP, hK, hD0, hZ⟩ := hv
  subst hsz
  have hts := atoms_spec (ws := Cond.codeWith y bc mL ret hh :: Gw) B.pre
  have F : Fx (p, l, e, rmOf d U, s, m, (args.map (cv ρ)).toArray, below, meth, c) (g, cy, Aof ρ Lall s.heap.size, mL, ρ, Lall) bc y.cls ret d U false :=
    ⟨B.exec, B.bytes, hml, findClass_of_methodNamed B.named, fun w h => hts w (List.mem_cons_of_mem _ h), hK, Lall_nodup, Aof_D hD0, Aof_hA, B.notSynchronized, B.returns, rfl, htr, hZ, (fun z => by cases z), rfl⟩
  have k := h _ _ F (vx_table (x := y) B (hts _ List.mem_cons_self)) rfl s.heap [] _ hP va_S.rf (lh_entry (ρ := ρ) hw hn)
  rw [lg_entry_eq]
  exact k

def MLH (own : String) (idx : Nat) (y : MethodName) (bc : ByteArray) (mL : Nat) (ret : Option FieldType) (hh : List (Nat × Nat × Nat × Nat)) (n : Nat) : Prop :=
  (y.cls ≠ "java/lang/invoke/MethodHandle" ∧ y.cls ≠ "java/lang/invoke/VarHandle" ∧ (parseMethodDescriptor y.desc).map (fun d => d.parameters.length) = some n) ∧ mL ≤ 40 ∧ Cond.methodLink own idx y ∈ Gw ∧ Cond.static y ∈ Gw ∧ Cond.initialized y.cls ∈ Gw ∧ Cond.codeWith y bc mL ret hh ∈ Gw
section HROWS
variable {hh : List (Nat × Nat × Nat × Nat)} {M : Id4 → Int → Int} {Rf : Id4 → Int → Option Id4} {X : Cx} {K : Kx} {cc bc : ByteArray} {own : String} {ret ry : Option FieldType} {d U d2 U2 pc u mL idx t : Nat} {lv st : List AV} {σ : Hp} {tb : Bool} {y : MethodName} {q : Id4} {Q : State → Prop}
theorem aw_catch (F : Fx X K cc own ret d U false) (hT : TBL X hh) {E : String} (hE : E ∈ EL) (pre : List (Nat × Nat × Nat × Nat)) (x : Nat × Nat × Nat × Nat) (suf : List (Nat × Nat × Nat × Nat)) (hs : hh = pre ++ x :: suf) (hpass : ∀ z ∈ pre, z.2.2.2 ≠ 0 ∧ ∃ nm : String, Cond.classLink own z.2.2.2 nm ∈ Gw ∧ nm ∈ CL ∧ E ≠ nm) (hcov : covers ⟨x.1, x.2.1, x.2.2.1, x.2.2.2⟩ pc = true) (h0 : x.2.2.2 ≠ 0) (hlink : Cond.classLink own x.2.2.2 E ∈ Gw) {k9 n9 : Nat} (hd : (n9 = 2 ∧ decode cc x.2.2.1 = .ok (.astore k9, 2)) ∨ ∃ f : Fin 4, (f : Nat) = k9 ∧ n9 = 1 ∧ decode cc x.2.2.1 = .ok (.astore_n f, 1)) (hw : lv.all (fun v => !wide v) = true) (hlen : lv.length = K.2.2.2.1) (hk9 : k9 < lv.length) (k : AW X K (x.2.2.1 + n9) (lv.set k9 aX) [] σ u Q) : YW X K pc lv σ u E Q := by
  obtain ⟨p, l, e, R, s, m, args, below, meth, c⟩ := X
  obtain ⟨g, cy, A, nL, ρ, L⟩ := K
  obtain ⟨hx, hb, hml, hown, hts, hK, hnd, hD, hA, hlk, hret, hR, htr, hZ, hE9⟩ := F
  obtain ⟨hE1, rfl⟩ := hE9
  intro H locs ls ce q9 rest hP hS hl hce hv hcl
  obtain ⟨z1, z2, z3, z4, z5, z6, z7, z8⟩ := hZ
  subst hs
  have hn9 : lv.length = nL := hlen
  have fin : ∀ ls' : Array Slot, lv_has ls' nL ((k9, Value.ref q9) :: (asL ρ 0 lv).filter (fun q => !(q.1 == k9) && !(q.1 + 1 == k9 && q.2.category == 2))) → LH ρ ls' nL (lv.set k9 aX) := fun ls' h' => by
    refine ⟨h'.1, h'.2.1, fun j w hj hx9 => ?_⟩
    by_cases hji : j = k9
    · subst hji
      rw [List.getElem?_set_self hk9] at hj
      cases hj
      cases hx9
    · rw [List.getElem?_set_ne (Ne.symm hji)] at hj
      refine h'.2.2 (j, cv ρ w) (List.mem_cons.mpr (Or.inr (List.mem_filter.mpr ⟨(asL_mem lv 0 _).mpr ⟨j, w, hj, hx9, by rw [Nat.zero_add]⟩, ?_⟩)))
      have hwd : wide w = false := by
        have := List.all_eq_true.mp hw w (List.mem_of_getElem? hj)
        simpa using this
      simp [hji, cv_cat (ρ := ρ) hwd]
  refine vx_catch (own := own) (name := E) hown (tableOf pre) ⟨x.1, x.2.1, x.2.2.1, x.2.2.2⟩ (tableOf suf) (by rw [hT]; unfold tableOf; rw [List.map_append]; rfl) (fun z hz => ?_) hcov h0 (hts _ hlink) (va_Nw.use rfl (z8.2.1 _ hE)) hce hv hcl ?_
  · obtain ⟨z', hz', rfl⟩ := List.mem_map.mp hz
    obtain ⟨w1, nm, w2, w3, w4⟩ := hpass z' hz'
    exact Or.inr ⟨w1, nm, hts _ w2, z8.2.2 _ hE _ w3 w4⟩
  · rcases hd with ⟨rfl, hd⟩ | ⟨f, hf, rfl, hd⟩
    · exact lv_astore (i := k9) hx hb hd (lh_as hl) (by rw [← hn9]; exact hk9) rfl (fun ls' h' => k H locs ls' hP hS (fin ls' h'))
    · exact lv_astore_n (i := k9) hx hb hd hf (lh_as hl) (by rw [← hn9]; exact hk9) rfl (fun ls' h' => k H locs ls' hP hS (fin ls' h'))
theorem aw_hcallVI {as9 : List AV} {Q2 : Int → Hp → Prop} {QX2 : String → Hp → Prop} (F : Fx X K cc own ret d U false) (hd : decode cc pc = .ok (.invokevirtual idx, 3)) (hl9 : MLV own idx y bc mL ry t as9.length) (hk : kd q = .inl t) (hm : inB q) (hc : CxI d2 U2 y bc mL ry (aR q :: as9) σ Q2 QX2) (hst : stW st ≤ 8) (hdd : d2 + 1 ≤ d) (hu : u + U2 ≤ U) (kx : ∀ (E : String) (σ' : Hp), QX2 E σ' → YW X K pc lv σ' (u + U2) E Q) (k : ∀ (v : Int) (σ' : Hp), Q2 v σ' → AW X K (pc + 3) lv (aI v :: st) σ' (u + U2) Q) : AW X K pc lv (as9.reverse ++ aR q :: st) σ u Q := by
  obtain ⟨p, l, e, R, s, m, args, below, meth, c⟩ := X
  obtain ⟨g, cy, A, nL, ρ, L⟩ := K
  obtain ⟨hx, hb, hml, hown, hts, hK, hnd, hD, hA, hlk, hret, hR, htr, hZ, hE⟩ := F
  subst hR
  obtain ⟨hE1, rfl⟩ := hE
  intro H locs ls hP hS hl
  obtain ⟨⟨rr, hr1, hr2⟩, -⟩ := id hl9
  obtain ⟨i, hi, hi2⟩ := ws_at (ρ := ρ) (cy := cy) (σ := σ) (memL (by rw [hk]; intro z; cases z; exact absurd (vw_lt hr1) (by decide)) hm)
  rw [ent_obj hk] at hi2
  have hf9 : ∀ q, Aof ρ Lall H.size q → A q := fun q h => h.elim (fun ⟨i, hi, he⟩ => he ▸ wsA_D hD i hi) (fun h => hA q (Nat.le_trans hS.1 h))
  have hM := hc l g cy ρ H.size htr
  refine vx_calli (vx_runV (As := as9.map (cv ρ)) (rest := st.map (cv ρ)) ⟨hx, hb, hml, hown, hts⟩ hM (hl9.cw hts hdd) ⟨WRs_blind, hr2 ▸ va_recv hK hP hr1 hi2, fun V hV hW => ⟨rfl, WRs_call hK hD hA hZ hP hS hV hW⟩⟩ rfl (List.length_map _) hl.1 (by show (as9.reverse ++ aR q :: st).map (cv ρ) = _; rw [List.map_append, List.map_reverse]; rfl) (lv_room (Nat.le_trans (st_cat st) hst)) hd ⟨hu, by show 64 * u + 64 * U2 ≤ 64 * U; omega⟩) hS (fun q _ h => hf9 q h) hf9 (fun q _ h => hf9 q h) (fun E ce q9 u9 t9 H1 locs1 ht hvm _ hB hz1 hk1 hS1 hce hv hcl => ?_) (fun v9 u9 t9 H1 locs1 ht hvm hw hB hz1 hk1 hS1 => ?_)
  · obtain ⟨hB0, hB1, hB2⟩ := hB
    have hP1 : va_P g vwCl (wsOf ρ cy Lall u9) H1 := by rw [← ht]; exact hB1
    have z := kx E u9 hB0 H1 locs1 ls ce q9 (st.map (cv ρ)) hP1 hS1 hl hce hv hcl
    rw [show 64 * (u + U2) = 64 * u + 64 * U2 by omega] at z
    exact z
  · obtain ⟨hw1, hw2⟩ := hw
    subst hw1
    have hP1 : va_P g vwCl (wsOf ρ cy Lall u9.2) H1 := by rw [← ht]; exact hB.1
    rw [show 64 * u + 64 * U2 = 64 * (u + U2) by omega]
    exact k u9.1 u9.2 hw2 H1 locs1 ls hP1 hS1 hl
end HROWS

