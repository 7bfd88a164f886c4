/-! g4: from the law's entry to its end -/
theorem room_less {s : State} {pl : Platform} {R R' : Room} (h1 : R'.frames ≤ R.frames) (h2 : R'.cells ≤ R.cells) (h3 : R'.slots ≤ R.slots) (h4 : R'.locals ≤ R.locals) (h : s.hasRoom pl R = true) : s.hasRoom pl R' = true := by
  unfold State.hasRoom at h ⊢
  simp only [Bool.and_eq_true, decide_eq_true_eq] at h ⊢
  obtain ⟨⟨⟨⟨a, b⟩, c⟩, d⟩, e⟩ := h
  exact ⟨⟨⟨⟨by omega, by omega, by omega, by omega, by omega, b.2.2.2.2⟩, by omega⟩, by omega⟩, e⟩
theorem W_less {p : Program} {l : Launch} {e : Env} {R R' : Room} {s : State} {m : MethodId} {args : Array Value} {below : List Frame} {meth : Method} {c : Code} {H : Heap} {locs : List Loc} {cells slots : Nat} {Q : State → Prop} {g : JFrame} (h1 : R'.frames ≤ R.frames) (h2 : R'.cells ≤ R.cells) (h3 : R'.slots ≤ R.slots) (h4 : R'.locals ≤ R.locals) (k : W p l e R' s m args below meth c H locs cells slots Q g) : W p l e R s m args below meth c H locs cells slots Q g := fun T hT X => k T hT { X with room := room_less h1 h2 h3 h4 X.room }
theorem lw_end {p : Program} {l : Launch} {e : Env} {R : Room} {s : State} {m : MethodId} {below : List Frame} {meth : Method} {c : Code} {b : Nat} {d0 : Drawn} (hd0 : s.drawn.sameBut d0 lw_cs) (hx : p.tables.exec = Jvm.exec) (hb : c.code = code) (hr : meth.sig.returnType = ret) (hlocks : meth.locks = false) {pc : Nat} {H : Heap} {ls : Array Slot} (hdg : decode code pc = .ok (.ireturn, 1)) : W p l e R (s.setDrawn d0) m #[Value.ref b] below meth c H [] 600086 7301442 (lw_Z below #[Value.ref b] s) (F0 m pc ls [.int 1]) := by
  intro T hT X
  obtain ⟨fs, hret, hrun, hended, hW, hframe⟩ := X.leave (v := some (.int 1)) (hlocks := hlocks) (fun h => by rw [hr] at h; cases h)
  have hmeth' : T.vm.method? m = some meth := X.method'
  refine ⟨T.setFrames fs, ?_, .returned (some (.int 1)), hrun, hended, rfl, lw_closed hd0 ⟨_, rfl⟩ hW hframe⟩
  jvm_step X.here [X.here.top, hx, hb, hdg, hmeth', hr, ret, narrow_b1]
  (try refine ⟨rfl, ?_⟩); (try refine ⟨rfl, ?_⟩)
  first | (intro acts; rw [hret _ acts rfl rfl rfl]) | rw [hret _ _ rfl rfl rfl]
  exact Steps.refl _
theorem inst_all (t : Nat) (r : vw_C) (h : vwCl[t]? = some r) : Cond.instantiable r.1 r.2.2 ∈ Gw := by
  match t, h with
  | 0, h =>
    obtain ⟨r1, e1, -, -, e4⟩ := nc_0
    rw [e1] at h
    cases h
    exact e4
  | 1, h =>
    obtain ⟨r1, e1, -, -, e4⟩ := nc_1
    rw [e1] at h
    cases h
    exact e4
  | 2, h =>
    obtain ⟨r1, e1, -, -, e4⟩ := nc_2
    rw [e1] at h
    cases h
    exact e4
  | 3, h =>
    obtain ⟨r1, e1, -, -, e4⟩ := nc_3
    rw [e1] at h
    cases h
    exact e4
  | 4, h =>
    obtain ⟨r1, e1, -, -, e4⟩ := nc_4
    rw [e1] at h
    cases h
    exact e4
  | 5, h =>
    obtain ⟨r1, e1, -, -, e4⟩ := nc_5
    rw [e1] at h
    cases h
    exact e4
  | 6, h =>
    obtain ⟨r1, e1, -, -, e4⟩ := nc_6
    rw [e1] at h
    cases h
    exact e4
  | 7, h =>
    obtain ⟨r1, e1, -, -, e4⟩ := nc_7
    rw [e1] at h
    cases h
    exact e4
  | 8, h =>
    obtain ⟨r1, e1, -, -, e4⟩ := nc_8
    rw [e1] at h
    cases h
    exact e4
  | 9, h =>
    obtain ⟨r1, e1, -, -, e4⟩ := nc_9
    rw [e1] at h
    cases h
    exact e4
  | 10, h =>
    obtain ⟨r1, e1, -, -, e4⟩ := nc_10
    rw [e1] at h
    cases h
    exact e4
  | 11, h =>
    obtain ⟨r1, e1, -, -, e4⟩ := nc_11
    rw [e1] at h
    cases h
    exact e4
  | n + 12, h => cases h
theorem start_K {s : State} {args : Array Value} (htG : ∀ w ∈ Gw, w.before args s = true) (hN : NV s) : ∃ (g : va_G) (cy : Nat → ClassId), va_K g vwCl (tysOf cy) s := by
  have h1 : ∀ t : Nat, ∃ q : ClassId × (Nat → Nat), ∀ r : vw_C, vwCl[t]? = some r → u_Kn s r.1 r.2.1 r.2.2 q.1 q.2 := fun t => by
    cases hr : vwCl[t]? with
    | none => exact ⟨(0, fun _ => 0), fun r h => by cases h⟩
    | some r =>
      obtain ⟨cC, iS, h⟩ := u_known (n := r.2.2) htG (clsOK t r hr).2 (htG _ (inst_all t r hr))
      exact ⟨(cC, iS), fun r' h' => by cases h'; exact h⟩
  have h2 : ∀ e : Nat, ∃ cA : ClassId, e < 8 → ArrOfT s cA (eT e) ∧ va_RA s cA (eT e) := fun e => by
    by_cases he : e < 8
    · rcases (show e = 0 ∨ e = 1 ∨ e = 2 ∨ e = 3 ∨ e = 4 ∨ e = 5 ∨ e = 6 ∨ e = 7 by omega) with rfl | rfl | rfl | rfl | rfl | rfl | rfl | rfl
      · obtain ⟨c, k, comp, z1, z2, z3⟩ := Cond.arrayClass_spec (args := args) (first := s) (o := none) (s := s) (idx := []) (htG _ ac_0)
        exact ⟨c, fun _ => ⟨fun n z => ⟨(fun k h => by cases h), k, z2, comp, z3⟩, z1⟩⟩
      · obtain ⟨c, k, comp, z1, z2, z3⟩ := Cond.arrayClass_spec (args := args) (first := s) (o := none) (s := s) (idx := []) (htG _ ac_1)
        exact ⟨c, fun _ => ⟨fun n z => ⟨(fun k h => by cases h), k, z2, comp, z3⟩, z1⟩⟩
      · obtain ⟨c, k, comp, z1, z2, z3⟩ := Cond.arrayClass_spec (args := args) (first := s) (o := none) (s := s) (idx := []) (htG _ ac_2)
        exact ⟨c, fun _ => ⟨fun n z => ⟨(fun k h => by cases h), k, z2, comp, z3⟩, z1⟩⟩
      · obtain ⟨c, k, comp, z1, z2, z3⟩ := Cond.arrayClass_spec (args := args) (first := s) (o := none) (s := s) (idx := []) (htG _ ac_3)
        exact ⟨c, fun _ => ⟨fun n z => ⟨(fun k h => by cases h), k, z2, comp, z3⟩, z1⟩⟩
      · obtain ⟨c, k, comp, z1, z2, z3⟩ := Cond.arrayClass_spec (args := args) (first := s) (o := none) (s := s) (idx := []) (htG _ ac_0)
        exact ⟨c, fun _ => ⟨fun n z => ⟨(fun k h => by cases h), k, z2, comp, z3⟩, z1⟩⟩
      · obtain ⟨comp, c, k, z1, -, z2, z3, z4⟩ := Cond.arrayOver_spec (args := #[]) (first := s) (o := none) (s := s) (idx := []) hN.2.1
        exact ⟨c, fun _ => ⟨fun n z => ⟨(fun k h => by cases h), k, z2, comp, z3⟩, k, comp, z2, z3, z1, z4⟩⟩
      · obtain ⟨comp, c, k, z1, z2, z3, z4⟩ := Cond.arrayOver_specA (args := #[]) (first := s) (o := none) (s := s) (idx := []) hN.2.2.2
        exact ⟨c, fun _ => ⟨fun n z => ⟨(fun k h => by cases h), k, z2, comp, z3⟩, z4⟩⟩
      · obtain ⟨comp, c, k, z1, z2, z3, z4⟩ := Cond.arrayOver_specA (args := #[]) (first := s) (o := none) (s := s) (idx := []) hN.2.2.1
        exact ⟨c, fun _ => ⟨fun n z => ⟨(fun k h => by cases h), k, z2, comp, z3⟩, z4⟩⟩
    · exact ⟨0, fun h => absurd h he⟩
  obtain ⟨f1, hf1⟩ := Classical.axiomOfChoice h1
  obtain ⟨cy, hcy⟩ := Classical.axiomOfChoice h2
  refine ⟨(fun t => (f1 t).1, fun t => (f1 t).2), cy, fun c q hq => hf1 c q hq, fun k q hk => ?_⟩
  unfold tysOf at hk
  rw [List.getElem?_map] at hk
  by_cases hk8 : k < 8
  · rw [List.getElem?_range hk8] at hk
    cases hk
    exact hcy k hk8
  · rw [List.getElem?_eq_none (by rw [List.length_range]; omega)] at hk
    cases hk
set_option maxHeartbeats 4000000 in
theorem whole_start {p : Program} {e : Env} {s : State} {m : MethodId} {below : List Frame} {meth : Method} {c : Code} (l : Launch) (hflags : l.flags = flags0) {b L : Nat} {xs : Nat → Int32} (hL : L ≤ 260) (C0 : lw_At p s m meth c b L xs) : W p l e room_1 s m #[Value.ref b] below meth c s.heap [] 0 0 (lw_Z below #[Value.ref b] s) (entryFrame m ([Value.ref b] : List Value).toArray 3) := by
  obtain ⟨hx, hb, hret, hml, hown, hts, hX, hbl, hlk, hgv⟩ := C0
  have hstk : l.stackTraces = false := by
    unfold Launch.stackTraces
    rw [hflags]
    decide +kernel
  have htG : ∀ w ∈ Gw, w.before #[Value.ref b] s = true := fun w hw => hts w (List.mem_filter.mp hw).1
  have hN : NV s := zs_NV hts
  obtain ⟨g, cy, hK⟩ := start_K htG hN
  have hA : ∀ a : Nat, a < s.heap.size → ¬ s.heap.size ≤ a := fun a h => by omega
  obtain ⟨adK, adV, fa, hZ⟩ := zs_ZZ hts hgv (A := fun q => s.heap.size ≤ q) hA
  obtain ⟨t1, o1, o2⟩ := ones_ok hts hgv (A := fun q => s.heap.size ≤ q) hA
  obtain ⟨t2, o3, o4⟩ := tens_ok hts hgv (A := fun q => s.heap.size ≤ q) hA
  obtain ⟨ρ0, hq, h20, h21, h22, h23, h24⟩ : ∃ ρ0 : Id4 → Nat, b = ρ0 (30, 0, 0, 0) ∧ (∀ i : Nat, ρ0 (20, (i : Int), 0, 0) = adK i) ∧ (∀ i : Nat, ρ0 (21, (i : Int), 0, 0) = adV i) ∧ ρ0 (22, 0, 0, 0) = fa ∧ ρ0 (23, 0, 0, 0) = t1 ∧ ρ0 (23, 1, 0, 0) = t2 := ⟨fun q => if q.1 = 30 then b else if q.1 = 20 then adK q.2.1.toNat else if q.1 = 21 then adV q.2.1.toNat else if q.1 = 23 then (if q.2.1 = 0 then t1 else t2) else fa, rfl, fun i => rfl, fun i => rfl, rfl, rfl, rfl⟩
  subst hq
  have hY : YY (L, xs) ρ0 (fun q => s.heap.size ≤ q) s := by
    refine ⟨hN, zs_PL hts, ?_, ?_, hX, hbl, hA _ hbl, hL⟩
    · rw [h23]
      exact ⟨o1, o2⟩
    · rw [h24]
      exact ⟨o3, o4⟩
  have F : FD (p, l, e, rmOf 60 9000, s, m, #[Value.ref (ρ0 (30, 0, 0, 0))], below, meth, c) (g, cy, fun q => s.heap.size ≤ q, 3, (L, xs)) ρ0 cL_law RL (some .boolean) 60 9000 := ⟨hx, hb, hml, hown, htG, hK, fun q h => h, hlk, hret, rfl, hstk, hZ ρ0 h20 h21 h22, hY⟩
  refine W_less (R' := rmOf 60 9000) (by decide) (by decide) (by decide) (by decide) ?_
  have k := law_body F rfl (Q := lw_Z below #[Value.ref (ρ0 (30, 0, 0, 0))] s) ?_
  · have k2 := k ρ0 AGd.rf LE.rf s.heap [] _ (fun k x hx => (by cases hx)) ⟨fun i j x y hi => (by cases hi), fun k x hx => (by cases hx)⟩ (DI.st _) (RFd.r (Or.inr (Nat.le_of_ble_eq_true rfl)) (RFd.ent (n := 2) RFd.nil)) RFd.nil va_S.rf (lh_entry (ρ := ρ0) (args := [aR (30, 0, 0, 0)]) (mL := 3) rfl (by decide))
    rw [lg_entry_eq]
    exact k2
  · intro L' M' R' lv u hu ρ hρ hLE H locs ls hP hD hI hV hT hS hl
    refine va_forget (fun q h => hS.2.2 q h) ?_
    refine W.widen (k := 600086) (n := 7301442) (by omega) (by omega) (W.base ?_)
    exact lw_end (Drawn.sameBut.refl s.drawn lw_cs) hx hb hret hlk dL_law_127
