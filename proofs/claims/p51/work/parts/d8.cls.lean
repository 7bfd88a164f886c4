/-! d8: calls of the class out of the walk that makes cells: the class's own cells are among those that there are -/
/-- where nothing is thrown -/
theorem CxI.ct {d U : Nat} {y : MethodName} {bc : ByteArray} {mL : Nat} {ret : Option FieldType} {args : List AV} {σ : Hp} {Q : Int → Hp → Prop} {QX : String → Hp → Prop} (h : CxI d U y bc mL ret args σ Q QX) (hn : ∀ E σ', ¬ QX E σ') : CtI d U y bc mL ret args σ Q := by
  intro l g cy ρ sz hl
  refine MetFree.imp (h l g cy ρ sz hl) (fun a s o s' z => ?_)
  rcases z with z | ⟨q, ho, E, ce, L, ⟨u, -, hX, -⟩, -⟩
  · exact z
  · exact absurd hX.1 (hn E _)
/-- the references of the class's cells, as far as a cell has them -/
def RXc (b : Bool) (q : Id4) (k : Int) : Option Id4 := if 0 ≤ k ∧ k < 37 then (match kd q with
  | .inl t => if rfF t k.toNat && decide (k.toNat < nfl t) then R0 b q k else none
  | .inr (e, n) => if 4 < e ∧ k < n then R0 b q k else none) else none
def chk (R R' : Id4 → Int → Option Id4) (q : Id4) : Bool := match kd q with
  | .inl t => (List.range (nfl t)).all fun k => !rfF t k || decide (R q (k : Int) = R' q (k : Int))
  | .inr (e, n) => decide (e ≤ 4) || (List.range n).all fun j => decide (R q (j : Int) = R' q (j : Int))
theorem va_at_chk {g : va_G} {cy : Nat → ClassId} {ρ : Id4 → Nat} {M : Id4 → Int → Int} {R R' : Id4 → Int → Option Id4} {q : Id4} {H : Heap} (h : chk R R' q = true) (hp : va_at g vwCl (ρ q, ent ρ cy (M, R) q) H) : va_at g vwCl (ρ q, ent ρ cy (M, R') q) H := by
  unfold ent at hp ⊢
  unfold chk at h
  cases hk : kd q with
  | inl t =>
    rw [hk] at h hp
    dsimp only at h hp ⊢
    have e : flds ρ (M, R') q t = flds ρ (M, R) q t := by
      unfold flds
      refine List.map_congr_left fun k hk9 => ?_
      have h1 := List.all_eq_true.mp h k hk9
      by_cases hf : rfF t k = true
      · rw [if_pos hf, if_pos hf]
        rw [hf] at h1
        have h2 : R q (k : Int) = R' q (k : Int) := by simpa using h1
        show va_rf ((R' q (k : Int)).map ρ) = va_rf ((R q (k : Int)).map ρ)
        rw [h2]
      · rw [if_neg hf, if_neg hf]
    rw [e]
    exact hp
  | inr en =>
    obtain ⟨e, n⟩ := en
    rw [hk] at h hp
    dsimp only at h hp ⊢
    by_cases he : e ≤ 4
    · have e9 : arrs ρ (M, R') q e = arrs ρ (M, R) q e := by
        unfold arrs
        by_cases h3 : e ≤ 3
        · rw [if_pos h3, if_pos h3]
        · rw [if_neg h3, if_neg h3, if_pos (by omega), if_pos (by omega)]
      rw [e9]
      exact hp
    · have hall : ∀ j : Nat, j < n → R q (j : Int) = R' q (j : Int) := fun j hj => by
        rw [show decide (e ≤ 4) = false from decide_eq_false he, Bool.false_or] at h
        exact of_decide_eq_true (List.all_eq_true.mp h j (List.mem_range.mpr hj))
      have a1 : ∀ R'' : Id4 → Int → Option Id4, arrs ρ (M, R'') q e = .inr (.inr (.inr (.inr (fun j => (R'' q (j : Int)).map ρ)))) := fun R'' => by
        unfold arrs
        rw [if_neg (by omega), if_neg (by omega)]
      rw [a1] at hp ⊢
      have hp2 : H[ρ q]? = some (vp_cell (cy e) (n, .inr (.inr (.inr (.inr (fun j : Nat => (R q (j : Int)).map ρ)))))) := hp
      show H[ρ q]? = some (vp_cell (cy e) (n, .inr (.inr (.inr (.inr (fun j : Nat => (R' q (j : Int)).map ρ))))))
      rw [hp2, vp_cell_q, vp_cell_q]
      unfold arrV
      congr 3
      funext j
      show va_rf ((R q (j.val : Int)).map ρ) = va_rf ((R' q (j.val : Int)).map ρ)
      rw [hall j.val j.isLt]
theorem chkX_all : ∀ b : Bool, Lall.all (chk (RXc b) (R0 b)) = true ∧ Lall.all (chk (R0 b) (RXc b)) = true := by decide +kernel
theorem RX_all : ∀ b : Bool, (Lall.all fun q => (List.range 37).all fun k => match RXc b q (k : Int) with
  | none => true
  | some q2 => decide (q2 ∈ Lall)) = true := by decide +kernel
theorem RX_in {b : Bool} {q q2 : Id4} {k : Int} (hq : q ∈ Lall) (h : RXc b q k = some q2) : q2 ∈ Lall := by
  have hk : 0 ≤ k ∧ k < 37 := Classical.byContradiction fun z => by
    unfold RXc at h
    rw [if_neg z] at h
    cases h
  have h1 := List.all_eq_true.mp (List.all_eq_true.mp (RX_all b) q hq) k.toNat (List.mem_range.mpr (by omega))
  rw [show ((k.toNat : Nat) : Int) = k by omega, h] at h1
  simpa using h1
theorem Lall_8 : Lall.all (fun q => decide (q.1 ≤ 8)) = true := by decide +kernel
theorem L8_le {q : Id4} (h : q ∈ Lall) : q.1 ≤ 8 := by simpa using List.all_eq_true.mp Lall_8 q h
theorem o_in : ((8, 0, 0, 0) : Id4) ∈ Lall := by decide +kernel
def CLd (L : List Id4) : Prop := (∀ q ∈ Lall, q ∈ L) ∧ ∀ q ∈ L, q.1 ≤ 8 → q ∈ Lall
theorem CLd.app {L : List Id4} {t c : Nat} {i r : Int} (h : CLd L) (ht : 9 ≤ t) : CLd (L ++ [(t, i, c, r)]) := ⟨fun q hq => List.mem_append_left _ (h.1 q hq), fun q hq h8 => by
  rcases List.mem_append.mp hq with z | z
  · exact h.2 q z h8
  · rw [List.mem_singleton.mp z] at h8
    exact absurd h8 (by dsimp only; omega)⟩
/-- the references are the class's -/
def CRd (b : Bool) (Rf : Id4 → Int → Option Id4) : Prop := ∀ q ∈ Lall, Rf q = RXc b q
def mgM (M M' : Id4 → Int → Int) : Id4 → Int → Int := fun q => if q.1 ≤ 8 then M' q else M q
def mgR (Rf : Id4 → Int → Option Id4) (b : Bool) : Id4 → Int → Option Id4 := fun q => if q.1 ≤ 8 then RXc b q else Rf q
theorem mgM_c {M M' : Id4 → Int → Int} {q : Id4} (h : q.1 ≤ 8) : mgM M M' q = M' q := if_pos h
theorem mgM_o {M M' : Id4 → Int → Int} {q : Id4} (h : ¬ q.1 ≤ 8) : mgM M M' q = M q := if_neg h
theorem mgR_c {R : Id4 → Int → Option Id4} {b : Bool} {q : Id4} (h : q.1 ≤ 8) : mgR R b q = RXc b q := if_pos h
theorem mgR_o {R : Id4 → Int → Option Id4} {b : Bool} {q : Id4} (h : ¬ q.1 ≤ 8) : mgR R b q = R q := if_neg h
theorem CRd.mg {R : Id4 → Int → Option Id4} {b : Bool} : CRd b (mgR R b) := fun q hq => mgR_c (L8_le hq)
theorem P_map {g : va_G} {cy : Nat → ClassId} {ρ : Id4 → Nat} {L : List Id4} {σ σ' : Hp} {H H' : Heap} (h : ∀ q ∈ L, va_at g vwCl (ρ q, ent ρ cy σ q) H → va_at g vwCl (ρ q, ent ρ cy σ' q) H') (hP : va_P g vwCl (wsOf ρ cy L σ) H) : va_P g vwCl (wsOf ρ cy L σ') H' := by
  intro k x hx
  unfold wsOf at hx
  rw [List.getElem?_map] at hx
  cases hq : L[k]? with
  | none => rw [hq] at hx; cases hx
  | some q =>
    rw [hq] at hx
    cases hx
    refine h q (List.mem_of_getElem? hq) (hP k _ ?_)
    unfold wsOf
    rw [List.getElem?_map, hq]
    rfl
theorem P_at {g : va_G} {cy : Nat → ClassId} {ρ : Id4 → Nat} {L : List Id4} {σ : Hp} {H : Heap} (hP : va_P g vwCl (wsOf ρ cy L σ) H) {q : Id4} (hq : q ∈ L) : va_at g vwCl (ρ q, ent ρ cy σ q) H := by
  obtain ⟨i, -, hi2⟩ := ws_at (ρ := ρ) (cy := cy) (σ := σ) hq
  exact hP i _ hi2
theorem at_lt {g : va_G} {x : Nat × va_E} {H : Heap} (h : va_at g vwCl x H) : x.1 < H.size := by
  obtain ⟨a, e | e⟩ := x
  · have h1 : H[a]? = some _ := h
    exact (Array.getElem?_eq_some_iff.mp h1).1
  · obtain ⟨r, -, cell, h1, -⟩ := h
    exact (Array.getElem?_eq_some_iff.mp h1).1
theorem at_kept {g : va_G} {x : Nat × va_E} {H H1 : Heap} (h : va_at g vwCl x H) (hk : H1[x.1]? = H[x.1]?) : va_at g vwCl x H1 := by
  obtain ⟨a, e | e⟩ := x
  · have h1 : H[a]? = some _ := h
    exact hk.trans h1
  · obtain ⟨r, hr, h2⟩ := h
    exact ⟨r, hr, h2.kept hk⟩
theorem P_toR0 {g : va_G} {cy : Nat → ClassId} {ρ : Id4 → Nat} {L : List Id4} {M : Id4 → Int → Int} {Rf : Id4 → Int → Option Id4} {b : Bool} {H : Heap} (hL : CLd L) (hR : CRd b Rf) (hP : va_P g vwCl (wsOf ρ cy L (M, Rf)) H) : va_P g vwCl (wsOf ρ cy Lall (M, R0 b)) H :=
  P_map (fun q hq h => va_at_chk (R := RXc b) (List.all_eq_true.mp (chkX_all b).1 q hq) (by rw [← ent_loc (σ := (M, RXc b)) (σ' := (M, Rf)) rfl (hR q hq)]; exact h)) (P_sub hL.1 hP)
theorem P_back {g : va_G} {cy : Nat → ClassId} {ρ : Id4 → Nat} {A : Nat → Prop} {L : List Id4} {M M' : Id4 → Int → Int} {Rf : Id4 → Int → Option Id4} {b' : Bool} {H H1 : Heap} (hL : CLd L) (hD : va_D A (wsA ρ L)) (hP : va_P g vwCl (wsOf ρ cy L (M, Rf)) H) (hP1 : va_P g vwCl (wsOf ρ cy Lall (M', R0 b')) H1) (hk : ∀ q : Nat, q < H.size → ¬ Aof ρ Lall H.size q → H1[q]? = H[q]?) : va_P g vwCl (wsOf ρ cy L (mgM M M', mgR Rf b')) H1 := by
  intro k x hx
  unfold wsOf at hx
  rw [List.getElem?_map] at hx
  cases hq : L[k]? with
  | none => rw [hq] at hx; cases hx
  | some q =>
    rw [hq] at hx
    cases hx
    have hqL := List.mem_of_getElem? hq
    show va_at g vwCl (ρ q, ent ρ cy (mgM M M', mgR Rf b') q) H1
    by_cases h8 : q.1 ≤ 8
    · have hqA := hL.2 q hqL h8
      rw [ent_loc (σ := (M', RXc b')) (σ' := (mgM M M', mgR Rf b')) (mgM_c h8) (mgR_c h8)]
      exact va_at_chk (R := R0 b') (List.all_eq_true.mp (chkX_all b').2 q hqA) (P_at hP1 hqA)
    · rw [ent_loc (σ := (M, Rf)) (σ' := (mgM M M', mgR Rf b')) (mgM_o h8) (mgR_o h8)]
      have h := P_at hP hqL
      refine at_kept h (hk _ (at_lt h) (fun z => ?_))
      rcases z with ⟨i, hi, e⟩ | z
      · have e2 := D_inj hD hqL (hL.1 i hi) e
        rw [e2] at h8
        exact h8 (L8_le hi)
      · have := at_lt h
        dsimp only at this
        omega
theorem DI.mg {sx : Sx} {L : List Id4} {M M' : Id4 → Int → Int} {Rf : Id4 → Int → Option Id4} {b' : Bool} (hL : CLd L) (h : DI sx L (M, Rf)) : DI sx L (mgM M M', mgR Rf b') := by
  obtain ⟨h1, h2, h3, h4, h5⟩ := h
  refine ⟨h1, h2, h3, fun q hq k q2 e => ?_, h5.of (fun x hx => ⟨mgM_o (by omega), mgR_o (by omega)⟩)⟩
  by_cases h8 : q.1 ≤ 8
  · have e2 : RXc b' q k = some q2 := by rw [← e]; exact (congrFun (mgR_c h8) k).symm
    exact Or.inl (hL.1 _ (RX_in (hL.2 q hq h8) e2))
  · have e2 : Rf q k = some q2 := by rw [← e]; exact (congrFun (mgR_o h8) k).symm
    exact h4 q hq k q2 e2
section CCALLS
variable {X : Cx} {G : Gd} {ρ0 : Id4 → Nat} {L0 L : List Id4} {cc bc : ByteArray} {own : String} {ret ry : Option FieldType} {d U d2 U2 pc u mL idx : Nat} {lv st as : List AV} {M : Id4 → Int → Int} {Rf : Id4 → Int → Option Id4} {y : MethodName} {Q : State → Prop} {b : Bool}
theorem dw_ccall {Q2 : Int → Hp → Prop} (F : FD X G ρ0 cc own ret d U) (hd : decode cc pc = .ok (.invokevirtual idx, 3)) (hl9 : MLV own idx y bc mL ry 8 as.length) (hc : CtI d2 U2 y bc mL ry (aR (8, 0, 0, 0) :: as) (M, R0 b) Q2) (hCL : CLd L) (hCR : CRd b Rf) (hQ : ∀ v σ', Q2 v σ' → ∃ b', σ'.2 = R0 b') (hst : stW st ≤ 8) (hdd : d2 + 1 ≤ d) (hu : u + U2 ≤ U) (k : ∀ (v : Int) (M' : Id4 → Int → Int) (b' : Bool), Q2 v (M', R0 b') → DW X G ρ0 L0 L (pc + 3) lv (aI v :: st) (mgM M M', mgR Rf b') (u + U2) Q) : DW X G ρ0 L0 L pc lv (as.reverse ++ aR (8, 0, 0, 0) :: st) (M, Rf) u Q := by
  obtain ⟨p, l, e, R, s, m, args, below, meth, c⟩ := X
  obtain ⟨g, cy, A, nL, sx⟩ := G
  obtain ⟨hx, hb, hml, hown, hts, hK, hA, hlk, hret, hR, htr, hZ, hY⟩ := F
  intro ρ hρ hLE H locs ls hP hD hI hV hT hS hl
  subst hR
  have hRs : RFd L st := hT.mm (fun v hv => List.mem_append_right _ (List.mem_cons_of_mem _ hv))
  have hP0 := P_toR0 hCL hCR hP
  have hD0 : va_D A (wsA ρ Lall) := D_sub hCL.1 Lall_nodup hD
  have hf9 := Aof_A hD0 hA hS.1
  have hr : ∀ x : Id4, 20 ≤ x.1 → ρ x = ρ0 x := fun x hx => hρ x (Or.inr hx)
  have hM := hc l g cy ρ H.size htr
  have hsta : ((as.reverse ++ aR (8, 0, 0, 0) :: st).map (cv ρ)) = (as.map (cv ρ)).reverse ++ .ref (ρ (8, 0, 0, 0)) :: st.map (cv ρ) := by rw [List.map_append, List.map_reverse]; rfl
  obtain ⟨⟨rr, hr1, hr2⟩, -⟩ := id hl9
  obtain ⟨i, hi, hi2⟩ := ws_at (ρ := ρ) (cy := cy) (σ := (M, R0 b)) o_in
  rw [ent_obj (t := 8) rfl] at hi2
  refine va_calli (va_runV (C := y.cls) (As := as.map (cv ρ)) (rest := st.map (cv ρ)) ⟨hx, hb, hml, hown, hts⟩ hM (hl9.cw hts hdd) ⟨WRs_blind, hr2 ▸ va_recv hK hP0 hr1 hi2, fun V hV hW => ⟨rfl, WRs_call hK hD0 hA (hZ.ag hr) hP0 hS hV hW⟩⟩ rfl (List.length_map ..) hl.1 hsta (lv_room (Nat.le_trans (st_cat st) hst)) hd ⟨hu, by show 64 * u + 64 * U2 ≤ 64 * U; omega⟩) hS (fun q _ h => hf9 q h) hf9 (fun v9 u9 t9 H1 locs1 ht hvm hw hB hz1 hk1 hS1 => ?_)
  obtain ⟨hw1, hw2⟩ := hw
  subst hw1
  obtain ⟨v1, M1, R1⟩ := u9
  obtain ⟨b', hb'⟩ := hQ _ _ hw2
  dsimp only at hb' hw2
  subst hb'
  have hP1 : va_P g vwCl (wsOf ρ cy Lall (M1, R0 b')) H1 := by rw [← ht]; exact hB.1
  have kk := k v1 M1 b' hw2 ρ hρ hLE H1 locs1 ls (P_back hCL hD hP hP1 hk1) hD (hI.mg hCL) hV hRs.i hS1 hl
  rw [show 64 * u + 64 * U2 = 64 * (u + U2) by omega]
  exact kk
theorem dw_ccallF {Q2 : UInt32 → Hp → Prop} (F : FD X G ρ0 cc own ret d U) (hd : decode cc pc = .ok (.invokevirtual idx, 3)) (hl9 : MLV own idx y bc mL ry 8 as.length) (hc : CtF d2 U2 y bc mL ry (aR (8, 0, 0, 0) :: as) (M, R0 b) Q2) (hCL : CLd L) (hCR : CRd b Rf) (hQ : ∀ v σ', Q2 v σ' → ∃ b', σ'.2 = R0 b') (hst : stW st ≤ 8) (hdd : d2 + 1 ≤ d) (hu : u + U2 ≤ U) (k : ∀ (v : UInt32) (M' : Id4 → Int → Int) (b' : Bool), Q2 v (M', R0 b') → DW X G ρ0 L0 L (pc + 3) lv (aF v :: st) (mgM M M', mgR Rf b') (u + U2) Q) : DW X G ρ0 L0 L pc lv (as.reverse ++ aR (8, 0, 0, 0) :: st) (M, Rf) u Q := by
  obtain ⟨p, l, e, R, s, m, args, below, meth, c⟩ := X
  obtain ⟨g, cy, A, nL, sx⟩ := G
  obtain ⟨hx, hb, hml, hown, hts, hK, hA, hlk, hret, hR, htr, hZ, hY⟩ := F
  intro ρ hρ hLE H locs ls hP hD hI hV hT hS hl
  subst hR
  have hRs : RFd L st := hT.mm (fun v hv => List.mem_append_right _ (List.mem_cons_of_mem _ hv))
  have hP0 := P_toR0 hCL hCR hP
  have hD0 : va_D A (wsA ρ Lall) := D_sub hCL.1 Lall_nodup hD
  have hf9 := Aof_A hD0 hA hS.1
  have hr : ∀ x : Id4, 20 ≤ x.1 → ρ x = ρ0 x := fun x hx => hρ x (Or.inr hx)
  have hM := hc l g cy ρ H.size htr
  have hsta : ((as.reverse ++ aR (8, 0, 0, 0) :: st).map (cv ρ)) = (as.map (cv ρ)).reverse ++ .ref (ρ (8, 0, 0, 0)) :: st.map (cv ρ) := by rw [List.map_append, List.map_reverse]; rfl
  obtain ⟨⟨rr, hr1, hr2⟩, -⟩ := id hl9
  obtain ⟨i, hi, hi2⟩ := ws_at (ρ := ρ) (cy := cy) (σ := (M, R0 b)) o_in
  rw [ent_obj (t := 8) rfl] at hi2
  refine va_callf (va_runV (C := y.cls) (As := as.map (cv ρ)) (rest := st.map (cv ρ)) ⟨hx, hb, hml, hown, hts⟩ hM (hl9.cw hts hdd) ⟨WRs_blind, hr2 ▸ va_recv hK hP0 hr1 hi2, fun V hV hW => ⟨rfl, WRs_call hK hD0 hA (hZ.ag hr) hP0 hS hV hW⟩⟩ rfl (List.length_map ..) hl.1 hsta (lv_room (Nat.le_trans (st_cat st) hst)) hd ⟨hu, by show 64 * u + 64 * U2 ≤ 64 * U; omega⟩) hS (fun q _ h => hf9 q h) hf9 (fun v9 u9 t9 H1 locs1 ht hvm hw hB hz1 hk1 hS1 => ?_)
  obtain ⟨hw1, hw2⟩ := hw
  subst hw1
  obtain ⟨v1, M1, R1⟩ := u9
  obtain ⟨b', hb'⟩ := hQ _ _ hw2
  dsimp only at hb' hw2
  subst hb'
  have hP1 : va_P g vwCl (wsOf ρ cy Lall (M1, R0 b')) H1 := by rw [← ht]; exact hB.1
  have kk := k v1 M1 b' hw2 ρ hρ hLE H1 locs1 ls (P_back hCL hD hP hP1 hk1) hD (hI.mg hCL) hV hRs.f hS1 hl
  rw [show 64 * u + 64 * U2 = 64 * (u + U2) by omega]
  exact kk
theorem dw_hcall {hh : List (Nat × Nat × Nat × Nat)} {Q2 : Int → Hp → Prop} (F : FD X G ρ0 cc own ret d U) (hd : decode cc pc = .ok (.invokestatic idx, 3)) (hl9 : MLH own idx y bc mL ry hh 1) (hc : CtH d2 U2 y bc mL ry hh [aR (8, 0, 0, 0)] (M, R0 b) Q2) (hCL : CLd L) (hCR : CRd b Rf) (hQ : ∀ v σ', Q2 v σ' → ∃ b', σ'.2 = R0 b') (hst : stW st ≤ 8) (hdd : d2 + 1 ≤ d) (hu : u + U2 ≤ U) (k : ∀ (v : Int) (M' : Id4 → Int → Int) (b' : Bool), Q2 v (M', R0 b') → DW X G ρ0 L0 L (pc + 3) lv (aI v :: st) (mgM M M', mgR Rf b') (u + U2) Q) : DW X G ρ0 L0 L pc lv (aR (8, 0, 0, 0) :: st) (M, Rf) u Q := by
  obtain ⟨p, l, e, R, s, m, args, below, meth, c⟩ := X
  obtain ⟨g, cy, A, nL, sx⟩ := G
  obtain ⟨hx, hb, hml, hown, hts, hK, hA, hlk, hret, hR, htr, hZ, hY⟩ := F
  intro ρ hρ hLE H locs ls hP hD hI hV hT hS hl
  subst hR
  have hRs : RFd L st := hT.tl
  have hP0 := P_toR0 hCL hCR hP
  have hD0 : va_D A (wsA ρ Lall) := D_sub hCL.1 Lall_nodup hD
  have hf9 := Aof_A hD0 hA hS.1
  have hr : ∀ x : Id4, 20 ≤ x.1 → ρ x = ρ0 x := fun x hx => hρ x (Or.inr hx)
  have hM := hc l g cy ρ H.size htr
  obtain ⟨h2, h3, h4, h5, h6, h7⟩ := hl9
  have hcw : vx_CSW (rmOf d U) s args own idx y bc mL ry hh (Cond.codeWith y bc mL ry hh :: Gw) (rmOf d2 U2) U2 (64 * U2) 1 := by
    refine vx_cwSW 1 hts (gwIn (fun w hw => ?_)) rfl rfl rfl h2 ⟨hdd, by show 8 + (mL + 11) + 80 * d2 ≤ 80 * d; omega⟩
    unfold va_wsS at hw
    rcases List.mem_append.mp hw with hw | hw
    · simp only [List.mem_cons, List.not_mem_nil, or_false] at hw
      rcases hw with rfl | rfl | rfl <;> assumption
    · rcases List.mem_cons.mp hw with rfl | hw
      · exact h7
      · exact hw
  refine va_calli (vx_runSW (As := [.ref (ρ (8, 0, 0, 0))]) (rest := st.map (cv ρ)) ⟨hx, hb, hml, hown, hts⟩ hM hcw ⟨WRs_blind, fun V hV hW => ⟨rfl, WRs_call hK hD0 hA (hZ.ag hr) hP0 hS hV hW⟩⟩ rfl rfl hl.1 rfl (lv_room (Nat.le_trans (st_cat st) hst)) hd ⟨hu, by show 64 * u + 64 * U2 ≤ 64 * U; omega⟩) hS (fun q _ h => hf9 q h) hf9 (fun v9 u9 t9 H1 locs1 ht hvm hw hB hz1 hk1 hS1 => ?_)
  obtain ⟨hw1, hw2⟩ := hw
  subst hw1
  obtain ⟨v1, M1, R1⟩ := u9
  obtain ⟨b', hb'⟩ := hQ _ _ hw2
  dsimp only at hb' hw2
  subst hb'
  have hP1 : va_P g vwCl (wsOf ρ cy Lall (M1, R0 b')) H1 := by rw [← ht]; exact hB.1
  have kk := k v1 M1 b' hw2 ρ hρ hLE H1 locs1 ls (P_back hCL hD hP hP1 hk1) hD (hI.mg hCL) hV hRs.i hS1 hl
  rw [show 64 * u + 64 * U2 = 64 * (u + U2) by omega]
  exact kk
end CCALLS
