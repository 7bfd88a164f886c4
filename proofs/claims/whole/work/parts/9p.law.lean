theorem lw_end {p : Program} {l : Launch} {e : Env} {R : Room} {s : State} {m : MethodId} {below : List Frame} {meth : Method} {c : Code} {b : Nat} {d0 : Drawn} (hd0 : s.drawn.sameBut d0 lw_cs) (hx : p.tables.exec = Jvm.exec) (hb : c.code = code) (hr : meth.sig.returnType = ret) (hlocks : meth.locks = false) {pc : Nat} {H : Heap} {ls : Array Slot} (hdg : decode code pc = .ok (.ireturn, 1)) : W p l e R (s.setDrawn d0) m #[Value.ref b] below meth c H [] 601024 7293034 (lw_Z below #[Value.ref b] s) (F0 m pc ls [.int 1]) := by
  intro T hT X
  obtain ⟨fs, hret, hrun, hended, hW, hframe⟩ := X.leave (v := some (.int 1)) (hlocks := hlocks) (fun h => by rw [hr] at h; cases h)
  have hmeth' : T.vm.method? m = some meth := X.method'
  refine ⟨T.setFrames fs, ?_, .returned (some (.int 1)), hrun, hended, rfl, lw_closed hd0 ⟨_, rfl⟩ hW hframe⟩
  jvm_step X.here [X.here.top, hx, hb, hdg, hmeth', hr, ret, narrow_b1]
  (try refine ⟨rfl, ?_⟩); (try refine ⟨rfl, ?_⟩)
  first | (intro acts; rw [hret _ acts rfl rfl rfl]) | rw [hret _ _ rfl rfl rfl]
  exact Steps.refl _
theorem inst_all (t : Nat) (r : vw_C) (h : vwCl[t]? = some r) : Cond.instantiable r.1 r.2.2 ∈ Gw := by
  match t, h with
  | 0, h =>
    obtain ⟨r1, e1, -, -, e4⟩ := nc_0
    rw [e1] at h
    cases h
    exact e4
  | 1, h =>
    obtain ⟨r1, e1, -, -, e4⟩ := nc_1
    rw [e1] at h
    cases h
    exact e4
  | 2, h =>
    obtain ⟨r1, e1, -, -, e4⟩ := nc_2
    rw [e1] at h
    cases h
    exact e4
  | 3, h =>
    obtain ⟨r1, e1, -, -, e4⟩ := nc_3
    rw [e1] at h
    cases h
    exact e4
  | 4, h =>
    obtain ⟨r1, e1, -, -, e4⟩ := nc_4
    rw [e1] at h
    cases h
    exact e4
  | 5, h =>
    obtain ⟨r1, e1, -, -, e4⟩ := nc_5
    rw [e1] at h
    cases h
    exact e4
  | 6, h =>
    obtain ⟨r1, e1, -, -, e4⟩ := nc_6
    rw [e1] at h
    cases h
    exact e4
  | 7, h =>
    obtain ⟨r1, e1, -, -, e4⟩ := nc_7
    rw [e1] at h
    cases h
    exact e4
  | 8, h =>
    obtain ⟨r1, e1, -, -, e4⟩ := nc_8
    rw [e1] at h
    cases h
    exact e4
  | 9, h =>
    obtain ⟨r1, e1, -, -, e4⟩ := nc_9
    rw [e1] at h
    cases h
    exact e4
  | n + 10, h => cases h
theorem start_K {s : State} {args : Array Value} (htG : ∀ w ∈ Gw, w.before args s = true) (hN : NV s) : ∃ (g : va_G) (cy : Nat → ClassId), va_K g vwCl (tysOf cy) s := by
  have h1 : ∀ t : Nat, ∃ q : ClassId × (Nat → Nat), ∀ r : vw_C, vwCl[t]? = some r → u_Kn s r.1 r.2.1 r.2.2 q.1 q.2 := fun t => by
    cases hr : vwCl[t]? with
    | none => exact ⟨(0, fun _ => 0), fun r h => by cases h⟩
    | some r =>
      obtain ⟨cC, iS, h⟩ := u_known (n := r.2.2) htG (clsOK t r hr).2 (htG _ (inst_all t r hr))
      exact ⟨(cC, iS), fun r' h' => by cases h'; exact h⟩
  have h2 : ∀ e : Nat, ∃ cA : ClassId, e < 8 → ArrOfT s cA (eT e) ∧ va_RA s cA (eT e) := fun e => by
    by_cases he : e < 8
    · rcases (show e = 0 ∨ e = 1 ∨ e = 2 ∨ e = 3 ∨ e = 4 ∨ e = 5 ∨ e = 6 ∨ e = 7 by omega) with rfl | rfl | rfl | rfl | rfl | rfl | rfl | rfl
      · obtain ⟨c, k, comp, z1, z2, z3⟩ := Cond.arrayClass_spec (args := args) (first := s) (o := none) (s := s) (idx := []) (htG _ ac_0)
        exact ⟨c, fun _ => ⟨fun n z => ⟨(fun k h => by cases h), k, z2, comp, z3⟩, z1⟩⟩
      · obtain ⟨c, k, comp, z1, z2, z3⟩ := Cond.arrayClass_spec (args := args) (first := s) (o := none) (s := s) (idx := []) (htG _ ac_1)
        exact ⟨c, fun _ => ⟨fun n z => ⟨(fun k h => by cases h), k, z2, comp, z3⟩, z1⟩⟩
      · obtain ⟨c, k, comp, z1, z2, z3⟩ := Cond.arrayClass_spec (args := args) (first := s) (o := none) (s := s) (idx := []) (htG _ ac_2)
        exact ⟨c, fun _ => ⟨fun n z => ⟨(fun k h => by cases h), k, z2, comp, z3⟩, z1⟩⟩
      · obtain ⟨c, k, comp, z1, z2, z3⟩ := Cond.arrayClass_spec (args := args) (first := s) (o := none) (s := s) (idx := []) (htG _ ac_3)
        exact ⟨c, fun _ => ⟨fun n z => ⟨(fun k h => by cases h), k, z2, comp, z3⟩, z1⟩⟩
      · obtain ⟨c, k, comp, z1, z2, z3⟩ := Cond.arrayClass_spec (args := args) (first := s) (o := none) (s := s) (idx := []) (htG _ ac_4)
        exact ⟨c, fun _ => ⟨fun n z => ⟨(fun k h => by cases h), k, z2, comp, z3⟩, z1⟩⟩
      · obtain ⟨comp, c, k, z1, -, z2, z3, z4⟩ := Cond.arrayOver_spec (args := #[]) (first := s) (o := none) (s := s) (idx := []) hN.2.1
        exact ⟨c, fun _ => ⟨fun n z => ⟨(fun k h => by cases h), k, z2, comp, z3⟩, k, comp, z2, z3, z1, z4⟩⟩
      · obtain ⟨comp, c, k, z1, z2, z3, z4⟩ := Cond.arrayOver_specA (args := #[]) (first := s) (o := none) (s := s) (idx := []) hN.2.2.2
        exact ⟨c, fun _ => ⟨fun n z => ⟨(fun k h => by cases h), k, z2, comp, z3⟩, z4⟩⟩
      · obtain ⟨comp, c, k, z1, z2, z3, z4⟩ := Cond.arrayOver_specA (args := #[]) (first := s) (o := none) (s := s) (idx := []) hN.2.2.1
        exact ⟨c, fun _ => ⟨fun n z => ⟨(fun k h => by cases h), k, z2, comp, z3⟩, z4⟩⟩
    · exact ⟨0, fun h => absurd h he⟩
  obtain ⟨f1, hf1⟩ := Classical.axiomOfChoice h1
  obtain ⟨cy, hcy⟩ := Classical.axiomOfChoice h2
  refine ⟨(fun t => (f1 t).1, fun t => (f1 t).2), cy, fun c q hq => hf1 c q hq, fun k q hk => ?_⟩
  unfold tysOf at hk
  rw [List.getElem?_map] at hk
  by_cases hk8 : k < 8
  · rw [List.getElem?_range hk8] at hk
    cases hk
    exact hcy k hk8
  · rw [List.getElem?_eq_none (by rw [List.length_range]; omega)] at hk
    cases hk
theorem Lord_ten : ∀ q ∈ Lord, q.1 ≤ 10 := by decide +kernel
theorem Lord_len : Lord.length = 218 := by decide +kernel
theorem Lord_all : Lord.take 218 = Lord := List.take_of_length_le (by rw [Lord_len]; omega)
theorem Lall_nd : Lall.Nodup := by decide +kernel
theorem all_D {A : Nat → Prop} {ρ : Id4 → Nat} (h : va_D A (wsA ρ Lord)) : va_D A (wsA ρ Lall) := by
  have key : ∀ (k : Nat) (x : Nat × va_E), (wsA ρ Lall)[k]? = some x → ∃ (q : Id4) (j : Nat), Lall[k]? = some q ∧ Lord[j]? = some q ∧ x = (ρ q, .inr (0, [])) ∧ (wsA ρ Lord)[j]? = some x := fun k x hx => by
    unfold wsA at hx
    rw [List.getElem?_map, Option.map_eq_some_iff] at hx
    obtain ⟨q, hq, he⟩ := hx
    obtain ⟨j, hj⟩ := List.getElem?_of_mem (Lord_sub q (List.mem_of_getElem? hq))
    refine ⟨q, j, hq, hj, he.symm, ?_⟩
    unfold wsA
    rw [List.getElem?_map, hj]
    exact congrArg some he
  refine ⟨fun i j x y hi hj e => ?_, fun k x hx => ?_⟩
  · obtain ⟨q1, a1, b1, c1, -, d1⟩ := key i x hi
    obtain ⟨q2, a2, b2, c2, -, d2⟩ := key j y hj
    have e1 := h.1 a1 a2 x y d1 d2 e
    subst e1
    rw [c1] at c2
    cases c2
    exact (List.getElem?_inj (List.getElem?_eq_some_iff.mp b1).1 Lall_nd).mp (b1.trans b2.symm)
  · obtain ⟨q1, a1, b1, c1, -, d1⟩ := key k x hx
    exact h.2 a1 x d1
theorem all_P {g : va_G} {cy : Nat → ClassId} {ρ : Id4 → Nat} {H : Heap} (h : va_P g vwCl (wsOf ρ cy Lord (M9, R9)) H) : va_P g vwCl (wsOf ρ cy Lall (M9, R0 false)) H := by
  intro k x hx
  unfold wsOf at hx
  rw [List.getElem?_map, Option.map_eq_some_iff] at hx
  obtain ⟨q, hq, rfl⟩ := hx
  have hm := List.mem_of_getElem? hq
  obtain ⟨i, -, hi⟩ := ws_at (ρ := ρ) (cy := cy) (σ := (M9, R9)) (Lord_sub q hm)
  exact va_at_chk (List.all_eq_true.mp chk_all q hm) (h i _ hi)
set_option maxHeartbeats 1000000 in
theorem whole_start {p : Program} {e : Env} {s : State} {m : MethodId} {below : List Frame} {meth : Method} {c : Code} (l : Launch) (hflags : l.flags = flags0) {b L : Nat} {xs : Nat → Int32} (hL : L ≤ 3072) (C0 : lw_At p s m meth c b L xs) : W p l e room_1 s m #[Value.ref b] below meth c s.heap [] 0 0 (lw_Z below #[Value.ref b] s) (entryFrame m ([Value.ref b] : List Value).toArray 9) := by
  obtain ⟨hx, hb, hret, hml, hown, hts, hX, hbl, hlk, hgv⟩ := C0
  have hstk : l.stackTraces = false := by
    unfold Launch.stackTraces
    rw [hflags]
    decide +kernel
  have htG : ∀ w ∈ Gw, w.before #[Value.ref b] s = true := fun w hw => hts w (List.mem_filter.mp hw).1
  have hN : NV s := zs_NV hts
  obtain ⟨g, cy, hK⟩ := start_K htG hN
  obtain ⟨adK, adV, fa, hZ⟩ := zs_ZZ hts hgv (A := fun q => s.heap.size ≤ q) (fun a h => by omega)
  obtain ⟨ρ0, hq, h20, h21, h22⟩ : ∃ ρ0 : Id4 → Nat, b = ρ0 qS ∧ (∀ i : Nat, ρ0 (20, (i : Int), 0, 0) = adK i) ∧ (∀ i : Nat, ρ0 (21, (i : Int), 0, 0) = adV i) ∧ ρ0 (22, 0, 0, 0) = fa := ⟨fun q => if q.1 = 30 then b else if q.1 = 20 then adK q.2.1.toNat else if q.1 = 21 then adV q.2.1.toNat else fa, rfl, fun i => rfl, fun i => rfl, rfl⟩
  subst hq
  have F : FB (p, l, e, rmOf 60 5000, s, m, #[Value.ref (ρ0 qS)], below, meth, c) (g, cy, fun q => s.heap.size ≤ q, 9) cL_law RL (some .boolean) 60 5000 := ⟨hx, hb, hml, hown, htG, hK, fun q h => h, hlk, hret, rfl, hN⟩
  refine W_less (R' := rmOf 60 5000) (by decide) (by decide) (by decide) (by decide) ?_
  have k := law_new (ρ0 := ρ0) F rfl (Q := lw_Z below #[Value.ref (ρ0 qS)] s) ?_
  · have k2 := k ρ0 AG.rf s.heap [] _ (fun k x hx => (by cases hx)) ⟨fun i j x y hi => (by cases hi), fun k x hx => (by cases hx)⟩ (fun q k q2 h => (by cases h)) va_S.rf (lh_entry (ρ := ρ0) (args := [aR qS]) (mL := 9) rfl (by decide))
    rw [lg_entry_eq]
    exact k2
  · intro ρ hAG H locs ls hP hD hC hS hl
    rw [Lord_all] at hP hD
    have hr : ∀ q : Id4, 10 < q.1 → ρ q = ρ0 q := fun q h => hAG q (Or.inr (fun z => by have := Lord_ten q z; omega))
    have F2 : Fx (p, l, e, rmOf 60 5000, s, m, #[Value.ref (ρ0 qS)], below, meth, c) (g, cy, fun q => s.heap.size ≤ q, 9, ρ, Lall) cL_law RL (some .boolean) 60 5000 false := ⟨hx, hb, hml, hown, htG, hK, Lall_nd, all_D hD, fun q h => h, hlk, hret, rfl, hstk, hZ ρ (fun i => (hr _ (show (10 : Nat) < 20 by decide)).trans (h20 i)) (fun i => (hr _ (show (10 : Nat) < 21 by decide)).trans (h21 i)) ((hr _ (show (10 : Nat) < 22 by decide)).trans h22), fun h => (by cases h), rfl⟩
    have eq : ρ qS = ρ0 qS := hr qS (by decide)
    have hX2 : LX (p, l, e, rmOf 60 5000, s, m, #[Value.ref (ρ0 qS)], below, meth, c) (g, cy, fun q => s.heap.size ≤ q, 9, ρ, Lall) L xs := by
      unfold LX
      dsimp only
      rw [eq]
      exact ⟨hX, hbl, by omega⟩
    refine law_loop (U9 := 5000) F2 rfl hX2 hL (fun i M b u hu => ?_) 513 0 M9 false 259 (by omega) (by omega) (by omega) (by omega) inv_start H locs ls (all_P hP) hS hl
    refine aw_iconst (pc := 2541) F2 dL_law_2541 ?_
    intro H locs ls hP hS hl
    refine va_forget (fun q h => hS.2.2 q h) ?_
    refine W.widen (k := 601024) (n := 7293034) (by omega) (by omega) (W.base ?_)
    exact lw_end (Drawn.sameBut.refl s.drawn lw_cs) hx hb hret hlk dL_law_2542
