/-! e4: calls of the timetable that leave what there is -/
def CRx (b : Bool) (Rf : Id4 → Int → Option Id4) : Prop := ∀ q : Id4, q.1 ≤ 8 → Rf q = RXc b q
theorem CRx.cr {b : Bool} {Rf : Id4 → Int → Option Id4} (h : CRx b Rf) : CRd b Rf := fun q hq => h q (L8_le hq)
theorem CRx.mg {b : Bool} {Rf : Id4 → Int → Option Id4} : CRx b (mgR Rf b) := fun _ hq => mgR_c hq
theorem CRx.self {b : Bool} {Rf : Id4 → Int → Option Id4} (h : CRx b Rf) : mgR Rf b = Rf := funext fun q => by
  by_cases z : q.1 ≤ 8
  · rw [mgR_c z, h q z]
  · exact mgR_o z
theorem mgM_self {M : Id4 → Int → Int} : mgM M M = M := funext fun q => by
  by_cases z : q.1 ≤ 8
  · exact mgM_c z
  · exact mgM_o z
theorem CRx.u {b : Bool} {Rf : Id4 → Int → Option Id4} {q : Id4} {k : Int} {v : Option Id4} (h : CRx b Rf) (hq : ¬ q.1 ≤ 8) : CRx b (updR Rf q k v) := fun x hx => (updR_ne (x := x) (fun z => hq (by rw [← z]; exact hx))).trans (h x hx)
theorem CRx.z {b : Bool} {Rf : Id4 → Int → Option Id4} {q : Id4} (h : CRx b Rf) (hq : ¬ q.1 ≤ 8) : CRx b (zR Rf q) := fun x hx => (zR_ne (x := x) (fun z => hq (by rw [← z]; exact hx))).trans (h x hx)
theorem CC.u {S : Int → Int} {M : Id4 → Int → Int} {q : Id4} {k v : Int} (h : CC S M) (hq : ¬ q.1 ≤ 8) : CC S (updM M q k v) := h.cls fun x hx => updM_ne (fun z => hq (z ▸ hx))
theorem CC.z {S : Int → Int} {M : Id4 → Int → Int} {q : Id4} (h : CC S M) (hq : ¬ q.1 ≤ 8) : CC S (zM M q) := h.cls fun x hx => zM_ne (fun z => hq (z ▸ hx))
theorem CC.mg {S : Int → Int} {M M' : Id4 → Int → Int} (h : CC S M') : CC S (mgM M M') := h.cls fun x hx => mgM_c hx
theorem pl_s8 {S : Int → Int} {M M' : Id4 → Int → Int} (h : CC S M) (hs : same8 M M') : CC S M' := by
  obtain ⟨h1, h2, nx, Hs, h3⟩ := h
  exact ⟨hs.pl h1, h2, nx, Hs, h3.s8 hs⟩
section CCR
variable {X : Cx} {G : Gd} {ρ0 : Id4 → Nat} {L0 L : List Id4} {cc bc : ByteArray} {own : String} {ret ry : Option FieldType} {d U d2 U2 pc u mL idx : Nat} {lv st as : List AV} {M : Id4 → Int → Int} {Rf : Id4 → Int → Option Id4} {y : MethodName} {Q : State → Prop} {b : Bool}
theorem dw_cp {Q2 : Int → Hp → Prop} {x : Int} (F : FD X G ρ0 cc own ret d U) (hd : decode cc pc = .ok (.invokevirtual idx, 3)) (hl9 : MLV own idx y bc mL ry 8 as.length) (hc : CtI d2 U2 y bc mL ry (aR (8, 0, 0, 0) :: as) (M, R0 b) Q2) (hCL : CLd L) (hCR : CRx b Rf) (hQ : ∀ v σ', Q2 v σ' → v = x ∧ σ' = (M, R0 b)) (hst : stW st ≤ 8) (hdd : d2 + 1 ≤ d) (hu : u + U2 ≤ U) (k : DW X G ρ0 L0 L (pc + 3) lv (aI x :: st) (M, Rf) (u + U2) Q) : DW X G ρ0 L0 L pc lv (as.reverse ++ aR (8, 0, 0, 0) :: st) (M, Rf) u Q :=
  dw_ccall F hd hl9 hc hCL hCR.cr (fun v σ' h => ⟨b, by rw [(hQ v σ' h).2]⟩) hst hdd hu (fun v M' b' h => by
    obtain ⟨e1, e2⟩ := hQ _ _ h
    have e3 := congrArg Prod.fst e2
    have e4 := R0_in (congrArg Prod.snd e2)
    dsimp only at e3
    subst e1
    rw [e3, e4, mgM_self, hCR.self]
    exact k)
theorem dw_cpF {Q2 : UInt32 → Hp → Prop} {x : UInt32} (F : FD X G ρ0 cc own ret d U) (hd : decode cc pc = .ok (.invokevirtual idx, 3)) (hl9 : MLV own idx y bc mL ry 8 as.length) (hc : CtF d2 U2 y bc mL ry (aR (8, 0, 0, 0) :: as) (M, R0 b) Q2) (hCL : CLd L) (hCR : CRx b Rf) (hQ : ∀ v σ', Q2 v σ' → v = x ∧ σ' = (M, R0 b)) (hst : stW st ≤ 8) (hdd : d2 + 1 ≤ d) (hu : u + U2 ≤ U) (k : DW X G ρ0 L0 L (pc + 3) lv (aF x :: st) (M, Rf) (u + U2) Q) : DW X G ρ0 L0 L pc lv (as.reverse ++ aR (8, 0, 0, 0) :: st) (M, Rf) u Q :=
  dw_ccallF F hd hl9 hc hCL hCR.cr (fun v σ' h => ⟨b, by rw [(hQ v σ' h).2]⟩) hst hdd hu (fun v M' b' h => by
    obtain ⟨e1, e2⟩ := hQ _ _ h
    have e3 := congrArg Prod.fst e2
    have e4 := R0_in (congrArg Prod.snd e2)
    dsimp only at e3
    subst e1
    rw [e3, e4, mgM_self, hCR.self]
    exact k)
/-- one that leaves the row, and of the rest what is no class cell -/
theorem dw_cc {Q2 : Int → Hp → Prop} {Pv : Int → Prop} {S : Int → Int} (F : FD X G ρ0 cc own ret d U) (hd : decode cc pc = .ok (.invokevirtual idx, 3)) (hl9 : MLV own idx y bc mL ry 8 as.length) (hc : CtI d2 U2 y bc mL ry (aR (8, 0, 0, 0) :: as) (M, R0 b) Q2) (hCL : CLd L) (hCR : CRx b Rf) (hQ : ∀ v σ', Q2 v σ' → Pv v ∧ ∃ M', σ' = (M', R0 b) ∧ CC S M') (hst : stW st ≤ 8) (hdd : d2 + 1 ≤ d) (hu : u + U2 ≤ U) (k : ∀ (v : Int) (M' : Id4 → Int → Int), Pv v → CC S M' → (∀ q : Id4, ¬ q.1 ≤ 8 → M' q = M q) → DW X G ρ0 L0 L (pc + 3) lv (aI v :: st) (M', Rf) (u + U2) Q) : DW X G ρ0 L0 L pc lv (as.reverse ++ aR (8, 0, 0, 0) :: st) (M, Rf) u Q :=
  dw_ccall F hd hl9 hc hCL hCR.cr (fun v σ' h => by
    obtain ⟨-, M', e, -⟩ := hQ v σ' h
    exact ⟨b, by rw [e]⟩) hst hdd hu (fun v M' b' h => by
    obtain ⟨e1, M1, e2, e5⟩ := hQ _ _ h
    have e3 := congrArg Prod.fst e2
    have e4 := R0_in (congrArg Prod.snd e2)
    dsimp only at e3
    rw [e4, hCR.self]
    exact k v (mgM M M') e1 (e3 ▸ e5).mg (fun q hq => mgM_o hq))
/-- what is no cell and no constant may be called what one likes -/
theorem dw_ag {σ σ' : Hp} (h : ∀ q, inK L q → σ'.1 q = σ.1 q ∧ σ'.2 q = σ.2 q) (k : DW X G ρ0 L0 L pc lv st σ' u Q) : DW X G ρ0 L0 L pc lv st σ u Q := by
  obtain ⟨p, l, e, R, s, m, args, below, meth, c⟩ := X
  obtain ⟨g, cy, A, nL, sx⟩ := G
  intro ρ hρ hLE H locs ls hP hD hI hV hT hS hl
  obtain ⟨h1, h2, h3, h4, h5⟩ := hI
  refine k ρ hρ hLE H locs ls ?_ hD ⟨h1, h2, h3, fun q hq k' q2 e => h4 q hq k' q2 (by rw [← (h q (Or.inl hq)).2]; exact e), h5.of (fun x hx => h x (Or.inr hx))⟩ hV hT hS hl
  rw [ws_loc (fun q hq => h q (Or.inl hq))]
  exact hP
end CCR
def LDX (L : List Id4) (σ : Hp) (per E : Int) (tm : Int → Int) (l : List Sp5) : Int → List Id4 → Hp → Prop := fun v L' σ' => v = l.length ∧ L' = L ∧ OFF σ σ' ∧ (∃ S, CC S σ'.1 ∧ RWp S per E tm l) ∧ σ'.1 (6, 0, 0, 0) 2 = 0 ∧ ∃ b, CRx b σ'.2
set_option maxRecDepth 100000 in
theorem cdL_load (sx : Sx) (N L : List Id4) (M : Id4 → Int → Int) (Rf : Id4 → Int → Option Id4) (t : Id4) (per E : Int) (tm : Int → Int) (l : List Sp5) (b : Bool) (nx : Int) (hp : 2 ≤ per ∧ per ≤ 6) (he : 2 ≤ E ∧ E ≤ 5) (ht : ∀ j : Int, 0 ≤ j → j < E → 0 ≤ tm j ∧ tm j < per) (hl : l.length ≤ 7) (hx : ∀ x ∈ l, spT per E x) (hS : STR N L (M, Rf) t (txP per ++ txEs tm E.toNat ++ txSs l)) (hN : CLd N) (hCL : CLd L) (hCR : CRx b Rf) (hM0 : FDI M 0 (fun _ => 0)) (hNB : NmB M) (hn1 : M (2, 0, 0, 0) 1 = nx) (hn2 : 0 ≤ nx ∧ nx < 10) : CdI sx 15 1 yL_load cL_load 3 (some .int) [aR (8, 0, 0, 0), aR t] L (M, Rf) (LDX L (M, Rf) per E tm l) := by
  obtain ⟨tx, htx⟩ : ∃ tx, tx = txP per ++ txEs tm E.toNat ++ txSs l := ⟨_, rfl⟩
  rw [← htx] at hS
  obtain ⟨sq, hX, hH, hsN⟩ := hS
  obtain ⟨n, hn⟩ : ∃ n, n = tx.length := ⟨_, rfl⟩
  rw [← hn] at hX
  obtain ⟨hq, hc, hv, hkb, hmb, hn4, hby⟩ := id hX
  have hg : ∀ j, 0 ≤ chA M sq n j ∧ chA M sq n j ≤ 127 ∨ j < 0 := fun j => by
    by_cases z : j < 0
    · exact Or.inr z
    · left
      unfold chA
      by_cases y : j < n
      · rw [if_pos y]; exact hby j (by omega) y
      · rw [if_neg y]; omega
  obtain ⟨g, hgd⟩ : ∃ g : Int → Int, g = fun j => if j < 0 then 0 else chA M sq n j := ⟨_, rfl⟩
  have hg2 : ∀ j, 0 ≤ g j ∧ g j ≤ 127 := fun j => by
    rw [hgd]
    dsimp only
    split
    · omega
    · have := hg j; omega
  have hge : ∀ j, 0 ≤ j → chA M sq n j = g j := fun j hj => by
    rw [hgd]
    dsimp only
    rw [if_neg (by omega)]
  have hgt : ∀ j : Nat, j < tx.length → g (j : Int) = tx.getD j 0 := fun j hj => by
    rw [← hge _ (by omega), ← hH j hj]
    exact if_pos (by omega)
  have hf4 : ∀ k : Int, 0 ≤ k → f4 (fun j => chA M sq n (k + j)) 4 = f4 (fun j => g (k + j)) 4 := fun k hk => by
    show bOr (bShl (bOr (bShl (bOr (bShl (bOr (bShl 0 8) (chA M sq n (k + 0))) 8) (chA M sq n (k + 1))) 8) (chA M sq n (k + 2))) 8) (chA M sq n (k + 3)) = bOr (bShl (bOr (bShl (bOr (bShl (bOr (bShl 0 8) (g (k + 0))) 8) (g (k + 1))) 8) (g (k + 2))) 8) (g (k + 3))
    rw [hge _ (by omega), hge _ (by omega), hge _ (by omega), hge _ (by omega)]
  refine CdI.mk (by decide +kernel) rfl (Nat.le_of_ble_eq_true rfl) (fun X G ρ F hk hsx => ?_)
  subst hsx
  refine dw_DI F (fun hI _ _ _ => ?_)
  have hto := isS_off hI hq
  have hso : ¬ sq.1 ≤ 8 := fun z => by
    rcases hmb with y | ⟨i, -, y⟩
    · exact hsN (hN.1 _ (hCL.2 _ y z))
    · rw [y] at z
      exact absurd z (by dsimp only; omega)
  have hStr : ∀ (M1 : Id4 → Int → Int) (R1 : Id4 → Int → Option Id4), OFF (M, Rf) (M1, R1) → Str L (M1, R1) t sq n ∧ (∀ j, chA M1 sq n j = chA M sq n j) := fun M1 R1 hO => by
    obtain ⟨a1, a2⟩ := hO t hto
    obtain ⟨a3, a4⟩ := hO sq hso
    refine ⟨⟨hq, by rw [a1]; exact hc, by rw [a2]; exact hv, hkb, hmb, hn4, fun j j0 j1 => by rw [a3]; exact hby j j0 j1⟩, fun j => ?_⟩
    unfold chA
    rw [show M1 sq = M sq from a3]
  have fin : ∀ (M1 : Id4 → Int → Int) (R1 : Id4 → Int → Option Id4) (b1 : Bool) (k : Int), n ≤ k → k ≤ 500 → FDI M1 k g → OFF (M, Rf) (M1, R1) → CRx b1 R1 → NmB M1 → M1 (2, 0, 0, 0) 1 = nx → DW X G ρ L L 57 [aR (8, 0, 0, 0), aR t, aI k] [] (M1, R1) 0 (EId X G ρ L 1 (LDX L (M, Rf) per E tm l)) := by
    intro M1 R1 b1 k hk1 hk2 hF hO hR1 hN1 hx1
    obtain ⟨⟨gq, gc, gv, gkb, gmb, gn4, gby⟩, -⟩ := hStr M1 R1 hO
    have gcM : M1 t 1 = 0 := gc
    have gvM : R1 t 0 = some sq := gv
    have hB : ∀ i, 0 ≤ i → 0 ≤ M1 (8, 0, 1, 0) i ∧ M1 (8, 0, 1, 0) i ≤ 127 := fun i i0 => by
      rw [hF.2 i i0]
      split
      · exact hg2 i
      · omega
    have hAT : AT (M1 (8, 0, 1, 0)) 0 tx := fun j hj => by
      rw [show (0 : Int) + (j : Int) = j by omega, hF.2 _ (by omega), if_pos (by omega)]
      exact hgt j hj
    rw [htx] at hAT
    obtain ⟨S1, r1, e1⟩ := prs_all (S := fun _ => 0) hp he ht hl hx hAT
    rw [← htx, ← hn] at e1
    have hok := r1.ok hp he ht hl hx
    have hBC : BC (M1 (8, 0, 1, 0)) M1 := fun i i0 i1 => ⟨fun _ => rfl, fun z => by have := hB i i0; omega⟩
    have hBY : BY (M1 (8, 0, 1, 0)) := fun i i0 _ => by have := hB i i0; omega
    refine dw_aload0 (pc := 57) F dL_load_57 ?_
    refine dw_aload1 (pc := 58) F dL_load_58 ?_
    refine dw_callVI (as := []) (pc := 59) F dL_load_59 ml_L_19 (isS_kd gq) (isS_mem gq) (cdJ_length _ _ _ _ _ _ _ gq gcM gvM gkb gmb (by omega)) (Nat.le_of_ble_eq_true rfl) (by decide) (by omega) (fun v9 L9 s9 h9 _ => ?_)
    obtain ⟨rfl, rfl, rfl⟩ := h9
    refine dw_ccall (as := [_]) (pc := 62) F dL_load_62 ml_L_39 (CxI.ct (cx8_load M1 b1 (M1 (8, 0, 1, 0)) (fun _ => 0) n k (by unfold inR; omega) hBC hBY hN1 hF.1 (by omega) (fun _ _ => by rw [e1]; exact hok)) (fun E9 σ9 z => z.2.2 ⟨by omega, by omega⟩)) hCL hR1.cr (fun v9 σ9 z => by
      obtain ⟨-, M9, e9, -⟩ := z
      exact ⟨true, by rw [e9]⟩) (Nat.le_of_ble_eq_true rfl) (by decide) (by omega) (fun v9 M9 b9 h9 => ?_)
    obtain ⟨-, M8', e9, s9, -, -, s4⟩ := h9
    have e91 := congrArg Prod.fst e9
    dsimp only at e91
    subst e91
    rcases s4 with s4 | s4
    rotate_left
    · rw [e1] at s4
      exact absurd rfl s4.1
    rw [e1] at s4
    obtain ⟨-, sv, sp, -, sh2, sh1, sk, -⟩ := s4
    exact dw_iret (pc := 65) F dL_load_65 rfl (by omega) ⟨sv.trans r1.2.2.1, rfl, hO.tr OFF.mg, ⟨S1, CC.mg ⟨sp, hok, nx, fun _ _ => 0, ⟨⟨sh1.trans hx1, sh2, hn2, by omega⟩, fun i i0 i1 => by omega⟩⟩, r1⟩, (congrFun (mgM_c (M := M1) (Nat.le_of_ble_eq_true rfl)) 2).trans sk, b9, CRx.mg⟩
  have loop : ∀ (f : Nat) (M1 : Id4 → Int → Int) (R1 : Id4 → Int → Option Id4) (b1 : Bool) (k : Int), n ≤ k + 20 * f → 0 ≤ k → k ≤ n + 20 → FDI M1 k g → OFF (M, Rf) (M1, R1) → CRx b1 R1 → NmB M1 → M1 (2, 0, 0, 0) 1 = nx → DW X G ρ L L 2 [aR (8, 0, 0, 0), aR t, aI k] [] (M1, R1) 0 (EId X G ρ L 1 (LDX L (M, Rf) per E tm l)) := by
    intro f
    induction f with
    | zero =>
      intro M1 R1 b1 k h1 h2 h3 hF hO hR1 hN1 hx1
      obtain ⟨⟨gq, gc, gv, gkb, gmb, gn4, gby⟩, -⟩ := hStr M1 R1 hO
      have gcM : M1 t 1 = 0 := gc
      have gvM : R1 t 0 = some sq := gv
      refine dw_iload2 (pc := 2) F dL_load_2 ?_
      refine dw_aload1 (pc := 3) F dL_load_3 ?_
      refine dw_callVI (as := []) (pc := 4) F dL_load_4 ml_L_19 (isS_kd gq) (isS_mem gq) (cdJ_length _ _ _ _ _ _ _ gq gcM gvM gkb gmb (by omega)) (Nat.le_of_ble_eq_true rfl) (by decide) (by omega) (fun v9 L9 s9 h9 _ => ?_)
      obtain ⟨rfl, rfl, rfl⟩ := h9
      refine dw_icmp_ge (tgt := 57) (pc := 7) F dL_load_7 (by decide) (by unfold inR; omega) (by unfold inR; omega) (fun c7 => ?_) (fun c7 => absurd c7 (by omega))
      exact fin M1 R1 b1 k (by omega) (by omega) hF hO hR1 hN1 hx1
    | succ f ih =>
      intro M1 R1 b1 k h1 h2 h3 hF hO hR1 hN1 hx1
      obtain ⟨hS1, hch⟩ := hStr M1 R1 hO
      obtain ⟨gq, gc, gv, gkb, gmb, gn4, gby⟩ := id hS1
      have gcM : M1 t 1 = 0 := gc
      have gvM : R1 t 0 = some sq := gv
      have gf4 : ∀ k : Int, 0 ≤ k → f4 (fun j => chA M1 sq n (k + j)) 4 = f4 (fun j => g (k + j)) 4 := fun k hk => by
        rw [← hf4 k hk]
        congr 1
        funext j
        exact hch _
      refine dw_iload2 (pc := 2) F dL_load_2 ?_
      refine dw_aload1 (pc := 3) F dL_load_3 ?_
      refine dw_callVI (as := []) (pc := 4) F dL_load_4 ml_L_19 (isS_kd gq) (isS_mem gq) (cdJ_length _ _ _ _ _ _ _ gq gcM gvM gkb gmb (by omega)) (Nat.le_of_ble_eq_true rfl) (by decide) (by omega) (fun v9 L9 s9 h9 _ => ?_)
      obtain ⟨rfl, rfl, rfl⟩ := h9
      refine dw_icmp_ge (tgt := 57) (pc := 7) F dL_load_7 (by decide) (by unfold inR; omega) (by unfold inR; omega) (fun c7 => ?_) (fun c7 => ?_)
      · exact fin M1 R1 b1 k (by omega) (by omega) hF hO hR1 hN1 hx1
      · refine dw_aload0 (pc := 10) F dL_load_10 ?_
        refine dw_aload1 (pc := 11) F dL_load_11 ?_
        refine dw_iload2 (pc := 12) F dL_load_12 ?_
        refine dw_callSI (as := [_, _]) (pc := 13) F dL_load_13 ml_L_29 (cdL_four _ _ _ _ _ _ _ _ hS1 (by omega)) (Nat.le_of_ble_eq_true rfl) (by decide) (by omega) (fun v9 L9 s9 h9 _ => ?_)
        obtain ⟨rfl, rfl, rfl⟩ := h9
        refine dw_aload1 (pc := 16) F dL_load_16 ?_
        refine dw_iload2 (pc := 17) F dL_load_17 ?_
        refine dw_iconst (pc := 18) F dL_load_18 ?_
        refine dw_iadd (pc := 19) F dL_load_19 ?_
        refine dw_callSI (as := [_, _]) (pc := 20) F dL_load_20 ml_L_29 (cdL_four _ _ _ _ _ _ _ _ hS1 (by omega)) (Nat.le_of_ble_eq_true rfl) (by decide) (by omega) (fun v9 L9 s9 h9 _ => ?_)
        obtain ⟨rfl, rfl, rfl⟩ := h9
        refine dw_aload1 (pc := 23) F dL_load_23 ?_
        refine dw_iload2 (pc := 24) F dL_load_24 ?_
        refine dw_bipush (pc := 25) F dL_load_25 (by decide) ?_
        refine dw_iadd (pc := 27) F dL_load_27 ?_
        refine dw_callSI (as := [_, _]) (pc := 28) F dL_load_28 ml_L_29 (cdL_four _ _ _ _ _ _ _ _ hS1 (by omega)) (Nat.le_of_ble_eq_true rfl) (by decide) (by omega) (fun v9 L9 s9 h9 _ => ?_)
        obtain ⟨rfl, rfl, rfl⟩ := h9
        refine dw_aload1 (pc := 31) F dL_load_31 ?_
        refine dw_iload2 (pc := 32) F dL_load_32 ?_
        refine dw_bipush (pc := 33) F dL_load_33 (by decide) ?_
        refine dw_iadd (pc := 35) F dL_load_35 ?_
        refine dw_callSI (as := [_, _]) (pc := 36) F dL_load_36 ml_L_29 (cdL_four _ _ _ _ _ _ _ _ hS1 (by omega)) (Nat.le_of_ble_eq_true rfl) (by decide) (by omega) (fun v9 L9 s9 h9 _ => ?_)
        obtain ⟨rfl, rfl, rfl⟩ := h9
        refine dw_aload1 (pc := 39) F dL_load_39 ?_
        refine dw_iload2 (pc := 40) F dL_load_40 ?_
        refine dw_bipush (pc := 41) F dL_load_41 (by decide) ?_
        refine dw_iadd (pc := 43) F dL_load_43 ?_
        refine dw_callSI (as := [_, _]) (pc := 44) F dL_load_44 ml_L_29 (cdL_four _ _ _ _ _ _ _ _ hS1 (by omega)) (Nat.le_of_ble_eq_true rfl) (by decide) (by omega) (fun v9 L9 s9 h9 _ => ?_)
        obtain ⟨rfl, rfl, rfl⟩ := h9
        rw [gf4 _ (by omega), gf4 _ (by omega), gf4 _ (by omega), gf4 _ (by omega), gf4 _ (by omega)]
        refine dw_ccall (as := [_, _, _, _, _]) (pc := 47) F dL_load_47 ml_L_33 (ct8_feed M1 b1 k _ _ _ _ _ hF.1 (by omega)) hCL hR1.cr (fun v9 σ9 z => by
          obtain ⟨M9, e9, -⟩ := z
          exact ⟨b1, by rw [e9]⟩) (Nat.le_of_ble_eq_true rfl) (by decide) (by omega) (fun v9 M9 b9 h9 => ?_)
        obtain ⟨M8', e9, s1, s2⟩ := h9
        have e91 := congrArg Prod.fst e9
        dsimp only at e91
        subst e91
        rcases s2 with s2 | ⟨-, -, s3, s4⟩
        · omega
        refine dw_popI (pc := 50) F dL_load_50 ?_
        refine dw_iinc2 (pc := 51) F dL_load_51 rfl hk.symm ?_
        refine dw_goto (tgt := 2) (pc := 54) F dL_load_54 (by decide) ?_
        refine ih _ _ b9 _ (by omega) (by omega) (by omega) ⟨(congrFun (mgM_c (Nat.le_of_ble_eq_true rfl)) 1).trans s3, fun i i0 => ?_⟩ (hO.tr OFF.mg) CRx.mg (fun e k9 e0 e1 k0 k1 => ?_) ?_
        · rw [mgM_c (Nat.le_of_ble_eq_true rfl), s4, g20_at hg2, hF.2 i i0]
          by_cases z : i < k
          · rw [if_neg (by omega), if_pos z, if_pos (by omega)]
          · by_cases y : i < k + 20
            · rw [if_pos (by omega), if_pos y]
            · rw [if_neg (by omega), if_neg z, if_neg y]
        · rw [mgM_c (Nat.le_of_ble_eq_true rfl), s1 _ _ (by rintro (z | z); cases z; cases z.1)]
          exact hN1 e k9 e0 e1 k0 k1
        · rw [mgM_c (Nat.le_of_ble_eq_true rfl), s1 _ _ (by decide)]
          exact hx1
  refine dw_iconst (pc := 0) F dL_load_0 ?_
  refine dw_istore2 (pc := 1) F dL_load_1 rfl hk.symm ?_
  exact loop 20 M Rf b 0 (by omega) (by omega) (by omega) ⟨hM0.1, fun i i0 => by rw [hM0.2 i i0, if_neg (by omega), if_neg (by omega)]⟩ OFF.rf hCR hNB hn1
