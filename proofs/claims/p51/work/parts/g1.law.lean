/-! g1: the law's own body -/
section HCN
variable {X : Cx} {G : Gd} {ρ0 : Id4 → Nat} {L0 L : List Id4} {cc bc : ByteArray} {own : String} {ret ry : Option FieldType} {d U d2 U2 pc u mL idx : Nat} {lv st as : List AV} {M : Id4 → Int → Int} {Rf : Id4 → Int → Option Id4} {y : MethodName} {Q : State → Prop} {b : Bool}
theorem dw_hcn {hh : List (Nat × Nat × Nat × Nat)} {Q2 : Int → Hp → Prop} {Pv : Int → Prop} {S : Int → Int} (F : FD X G ρ0 cc own ret d U) (hd : decode cc pc = .ok (.invokestatic idx, 3)) (hl9 : MLH own idx y bc mL ry hh 1) (hc : CtH d2 U2 y bc mL ry hh [aR (8, 0, 0, 0)] (M, R0 b) Q2) (hCL : CLd L) (hCR : CRx b Rf) (hQ : ∀ v σ', Q2 v σ' → Pv v ∧ ∃ M', σ' = (M', R0 b) ∧ CN S M') (hst : stW st ≤ 8) (hdd : d2 + 1 ≤ d) (hu : u + U2 ≤ U) (k : ∀ (v : Int) (M' : Id4 → Int → Int), Pv v → CN S M' → (∀ q : Id4, ¬ q.1 ≤ 8 → M' q = M q) → DW X G ρ0 L0 L (pc + 3) lv (aI v :: st) (M', Rf) (u + U2) Q) : DW X G ρ0 L0 L pc lv (aR (8, 0, 0, 0) :: st) (M, Rf) u Q :=
  dw_hcall F hd hl9 hc hCL hCR.cr (fun v σ' h => by
    obtain ⟨-, M', e, -⟩ := hQ v σ' h
    exact ⟨b, by rw [e]⟩) hst hdd hu (fun v M' b' h => by
    obtain ⟨e1, M1, e2, e5⟩ := hQ _ _ h
    have e3 := congrArg Prod.fst e2
    have e4 := R0_in (congrArg Prod.snd e2)
    dsimp only at e3
    rw [e4, hCR.self]
    exact k v (mgM M M') e1 ((e3 ▸ e5).cls fun q hq => mgM_c hq) (fun q hq => mgM_o hq))
end HCN
def Mk (sx : Sx) : Id4 → Int → Int := fun q j => if q.1 = 21 then ((wByt.getD q.2.1.toNat []).getD j.toNat 0).toInt else if q.1 = 23 then (if q.2.1 = 0 then 48 + j % 10 else 48 + j / 10) else if q.1 = 30 then (sx.2 j.toNat).toInt else 0
def Nk : Id4 → Int → Option Id4 := fun q k => if q.1 = 20 ∧ k = 0 then some (21, q.2.1, 0, 0) else none
theorem DI.st (sx : Sx) : DI sx [] (Mk sx, Nk) := by
  refine ⟨fun q hq => (by cases hq), ⟨List.nodup_nil, fun q hq => (by cases hq)⟩, fun q hq => (by cases hq), fun q hq => (by cases hq), ⟨fun i hi => ⟨rfl, rfl, fun j _ => ?_⟩, fun j _ => ⟨rfl, rfl⟩, fun j _ => ?_⟩⟩
  · show ((wByt.getD ((i : Int)).toNat []).getD ((j : Int)).toNat 0).toInt = _
    rw [show ((i : Int)).toNat = i by omega, show ((j : Int)).toNat = j by omega]
  · show (sx.2 ((j : Int)).toNat).toInt = _
    rw [show ((j : Int)).toNat = j by omega]
theorem hM_c {M : Id4 → Int → Int} {q : Id4} (n : Nat) (h : q.2.2.1 ≠ 0) : hM M n q = M q := hM_off n (fun m _ z => h (by rw [z]))
theorem M8_names (i e k : Int) : M8 (3, i, 11, e) k = 0 := by
  simp [M8, setA, hM_c, updM, Z0]
theorem M8_buf : M8 (8, 0, 0, 0) 1 = 0 ∧ (∀ i, M8 (8, 0, 1, 0) i = 0) ∧ M8 (2, 0, 0, 0) 1 = 0 := ⟨rfl, fun i => rfl, rfl⟩
theorem fdi_8 {M : Id4 → Int → Int} : FDI (mgM M M8) 0 (fun _ => 0) := ⟨(congrFun (mgM_c (Nat.le_of_ble_eq_true rfl)) 1).trans M8_buf.1, fun i _ => by
  rw [mgM_c (Nat.le_of_ble_eq_true rfl), M8_buf.2.1]
  split <;> rfl⟩
theorem nmb_8 {M : Id4 → Int → Int} : NmB (mgM M M8) := fun e k _ _ _ _ => by
  rw [mgM_c (Nat.le_of_ble_eq_true rfl), M8_names]
  decide
set_option maxRecDepth 100000 in
set_option maxHeartbeats 4000000 in
theorem law_body {X : Cx} {G : Gd} {ρ0 : Id4 → Nat} {Q : State → Prop} (F : FD X G ρ0 cL_law RL (some .boolean) 60 9000) (hk : G.2.2.2.1 = 3) (kk : ∀ (L' : List Id4) (M' : Id4 → Int → Int) (R' : Id4 → Int → Option Id4) (lv : List AV) (u : Nat), u ≤ 9000 → DW X G ρ0 [] L' 127 lv [aI 1] (M', R') u Q) : DW X G ρ0 [] [] 0 [aR (30, 0, 0, 0), aX, aX] [] (Mk G.2.2.2.2, Nk) 0 Q := by
  -- from the checks on
  have last : ∀ (S : Int → Int) (b : Bool) (L : List Id4) (M : Id4 → Int → Int) (R : Id4 → Int → Option Id4) (u : Nat), u ≤ 3600 → LST S b L (M, R) 100 → DW X G ρ0 [] L 69 [aR (30, 0, 0, 0), aR (9, 0, 0, 0), aR (8, 0, 0, 0)] [] (M, R) u Q := by
    intro S b L M R u hu hS
    have hw := hS.ex.2.2.2.1
    refine dw_aload1 (pc := 69) F dL_law_69 ?_
    refine dw_aload2 (pc := 70) F dL_law_70 ?_
    refine dw_callVI (as := [_]) (pc := 71) F dL_law_71 ml_L_128 (by first | assumption | rfl) (by first | assumption | exact Or.inl (by first | assumption | (simp [*]; done))) (cdL_areSpans _ S _ _ _ b _ hS) (Nat.le_of_ble_eq_true rfl) (by decide) (by omega) (fun v9 L9 s9 h9 hLE9 => ?_)
    obtain ⟨rfl, hS⟩ := h9
    obtain ⟨M9, R9⟩ := s9
    have hw := hS.ex.2.2.2.1
    refine dw_if_eq (tgt := 93) (pc := 74) F dL_law_74 (by decide) (by unfold inR; omega) (fun c74 => absurd c74 (by decide)) (fun c74 => ?_)
    refine dw_aload1 (pc := 77) F dL_law_77 ?_
    refine dw_aload2 (pc := 78) F dL_law_78 ?_
    refine dw_callVI (as := [_]) (pc := 79) F dL_law_79 ml_L_132 (by first | assumption | rfl) (by first | assumption | exact Or.inl (by first | assumption | (simp [*]; done))) (cdL_isShared _ S _ _ _ b _ hS (by decide)) (Nat.le_of_ble_eq_true rfl) (by decide) (by omega) (fun v9 L9 s9 h9 hLE9 => ?_)
    obtain ⟨rfl, hS⟩ := h9
    obtain ⟨M9, R9⟩ := s9
    have hw := hS.ex.2.2.2.1
    refine dw_if_eq (tgt := 93) (pc := 82) F dL_law_82 (by decide) (by unfold inR; omega) (fun c82 => absurd c82 (by decide)) (fun c82 => ?_)
    refine dw_aload1 (pc := 85) F dL_law_85 ?_
    refine dw_aload2 (pc := 86) F dL_law_86 ?_
    refine dw_callVI (as := [_]) (pc := 87) F dL_law_87 ml_L_135 (by first | assumption | rfl) (by first | assumption | exact Or.inl (by first | assumption | (simp [*]; done))) (cdL_areDiffs _ S _ _ _ b _ hS (by decide)) (Nat.le_of_ble_eq_true rfl) (by decide) (by omega) (fun v9 L9 s9 h9 hLE9 => ?_)
    obtain ⟨rfl, hS⟩ := h9
    obtain ⟨M9, R9⟩ := s9
    obtain ⟨hCL, hCR, hCC, hw, hWF, -, -, g1, g2, g3, g4⟩ := hS.ex
    refine dw_if_ne (tgt := 95) (pc := 90) F dL_law_90 (by decide) (by unfold inR; omega) (fun c90 => ?_) (fun c90 => absurd c90 (by decide))
    refine dw_aload1 (pc := 95) F dL_law_95 ?_
    refine dw_aload2 (pc := 96) F dL_law_96 ?_
    refine dw_callVV (as := [_]) (pc := 97) F dL_law_97 ml_L_138 (by first | assumption | rfl) (by first | assumption | exact Or.inl (by first | assumption | (simp [*]; done))) (cdL_tries _ S _ _ _ b ⟨hCL, hCR, hCC, hw, hWF, ⟨_, g1, ⟨g2, rfl⟩, Or.inl ⟨rfl, rfl⟩⟩, ⟨_, g3, ⟨g4, rfl⟩, Or.inl ⟨rfl, rfl⟩⟩, fun z => absurd rfl z⟩) (Nat.le_of_ble_eq_true rfl) (by decide) (by omega) (fun L9 s9 h9 hLE9 => ?_)
    obtain ⟨M9, R9⟩ := s9
    have hT : TRI S b L9 M9 R9 (goS S 1) (goS S 0) := h9
    have hCL := hT.1
    have hw := hT.2.2.2.1
    refine dw_aload1 (pc := 100) F dL_law_100 ?_
    refine dw_aload2 (pc := 101) F dL_law_101 ?_
    refine dw_callVI (as := [_]) (pc := 102) F dL_law_102 ml_L_142 (by first | assumption | rfl) (by first | assumption | exact Or.inl (by first | assumption | (simp [*]; done))) (cdL_isFound _ S _ _ _ b hT) (Nat.le_of_ble_eq_true rfl) (by decide) (by omega) (fun v9 L9 s9 h9 hLE9 => ?_)
    obtain ⟨rfl, rfl, hCR, S9, hCN, hS9⟩ := h9
    obtain ⟨M9, R9⟩ := s9
    refine dw_if_eq (tgt := 126) (pc := 105) F dL_law_105 (by decide) (by unfold inR; omega) (fun c105 => absurd c105 (by decide)) (fun c105 => ?_)
    refine dw_aload2 (pc := 108) F dL_law_108 ?_
    refine dw_hcn (S := S9) (Pv := fun v => v = 1) (pc := 109) F dL_law_109 mh_145 (ch_noEvent _ b S9 hCN.1 hCN.2.1 hS9) hCL hCR (fun v σ9 z => ⟨z.1, _, z.2, hCN⟩) (Nat.le_of_ble_eq_true rfl) (by decide) (by omega) (fun v8 M8' hv8 hCN8 hO8 => ?_)
    subst hv8
    refine dw_if_eq (tgt := 126) (pc := 112) F dL_law_112 (by decide) (by unfold inR; omega) (fun c112 => absurd c112 (by decide)) (fun c112 => ?_)
    obtain ⟨p1, p2, nx, n9, Hs, p3⟩ := id hCN8
    refine dw_aload2 (pc := 115) F dL_law_115 ?_
    refine dw_hcn (S := S9) (Pv := fun v => v = 1) (pc := 116) F dL_law_116 mh_148 (ch_bad _ b S9 nx n9 Hs p1 p2 p3) hCL hCR (fun v σ9 z => ⟨z.1, _, z.2, hCN8⟩) (Nat.le_of_ble_eq_true rfl) (by decide) (by omega) (fun v8 M8' hv8 hCN7 hO7 => ?_)
    subst hv8
    refine dw_if_eq (tgt := 126) (pc := 119) F dL_law_119 (by decide) (by unfold inR; omega) (fun c119 => absurd c119 (by decide)) (fun c119 => ?_)
    refine dw_iconst (pc := 122) F dL_law_122 ?_
    refine dw_goto (tgt := 127) (pc := 123) F dL_law_123 (by decide) ?_
    exact kk _ _ _ _ _ (by omega)
  -- from the text on
  have mid : ∀ (L1 : List Id4) (M1 : Id4 → Int → Int) (R1 : Id4 → Int → Option Id4) (u : Nat), u ≤ 300 → (∀ q ∈ L1, 9 ≤ q.1) → (9, 0, 0, 0) ∈ L1 → R1 (9, 0, 0, 0) 0 = some (30, 0, 0, 0) → M1 (9, 0, 0, 0) 1 = 0 → (R1 (9, 0, 0, 0) 5 = some (12, 2, 0, 0) ∧ (12, 2, 0, 0) ∈ L1 ∧ R1 (9, 0, 0, 0) 6 = some (12, 3, 0, 0) ∧ (12, 3, 0, 0) ∈ L1) → DW X G ρ0 [] (L1 ++ Lord) 20 [aR (30, 0, 0, 0), aR (9, 0, 0, 0), aX] [aR (8, 0, 0, 0)] (mgM M1 M8, mgR R1 false) u Q := by
    intro L1 M1 R1 u hu hL9 hw1 hr1 ha1 hfc1
    have hw : (9, 0, 0, 0) ∈ L1 ++ Lord := List.mem_append_left _ hw1
    have w8 : ¬ ((9, 0, 0, 0) : Id4).1 ≤ 8 := by decide
    have hr : mgR R1 false (9, 0, 0, 0) 0 = some (30, 0, 0, 0) := (congrFun (mgR_o w8) 0).trans hr1
    have ha : mgM M1 M8 (9, 0, 0, 0) 1 = 0 := (congrFun (mgM_o w8) 1).trans ha1
    refine dw_DI F (fun hI1 _ _ _ => ?_)
    have hCL2 : CLd (L1 ++ Lord) := ⟨fun q hq => List.mem_append_right _ (Lord_sub q hq), hI1.2.1.2⟩
    refine dw_astore2 (pc := 20) F dL_law_20 rfl hk.symm ?_
    refine dw_aload2 (pc := 21) F dL_law_21 ?_
    refine dw_aload1 (pc := 22) F dL_law_22 ?_
    refine dw_bipush (pc := 23) F dL_law_23 (by decide) ?_
    refine dw_callVR (as := [_]) (pc := 25) F dL_law_25 ml_L_118 (by first | assumption | rfl) (by first | assumption | exact Or.inl (by first | assumption | (simp [*]; done))) (cdL_text _ _ _ _ hw hr ha) (Nat.le_of_ble_eq_true rfl) (by decide) (by omega) (fun r9 L3 s9 h9 hLE9 hin9 => ?_)
    obtain ⟨per, E, tm, l, T, hp, hE, htm, hl, hsp, hV⟩ := h9
    obtain ⟨M3, R3⟩ := s9
    refine dw_DI F (fun hI3 _ _ _ => ?_)
    have hCL3 := hCL2.di hV.1.1 hI3
    have hcl3 : ∀ q ∈ L3, q.1 ≤ 8 → M3 q = M8 q ∧ R3 q = RXc false q := fun q hq h8 => by
      have hqL := hCL2.1 q (hI3.2.1.2 q hq h8)
      obtain ⟨e1, e2⟩ := hV.1.2.1 q (Or.inl hqL) (fun z => by rw [z] at h8; exact absurd h8 (by decide))
      exact ⟨e1.trans (mgM_c h8), e2.trans (mgR_c h8)⟩
    have hag : ∀ q, inK L3 q → mgM M3 M8 q = M3 q ∧ mgR R3 false q = R3 q := fun q hq => by
      by_cases h8 : q.1 ≤ 8
      · have hq3 : q ∈ L3 := hq.resolve_right (fun z => by omega)
        obtain ⟨e1, e2⟩ := hcl3 q hq3 h8
        exact ⟨(mgM_c h8).trans e1.symm, (mgR_c h8).trans e2.symm⟩
      · exact ⟨mgM_o h8, mgR_o h8⟩
    refine dw_ag (σ' := (mgM M3 M8, mgR R3 false)) (fun q hq => hag q hq) ?_
    have hK3 : KO L3 (M3, R3) (mgM M3 M8, mgR R3 false) := fun q hq _ => hag q hq
    have hV := hV.ko LE.rf hK3 (hV.2.2.2.2.2.ko LE.rf hK3)
    have hw3 := hV.w
    refine dw_callSI (as := [_, _]) (pc := 28) F dL_law_28 ml_L_122 (cdL_load _ _ _ _ _ _ per E tm l false 0 hp hE htm hl hsp hV.2.2.2.2.2 hCL2 hCL3 CRx.mg fdi_8 nmb_8 (congrFun (mgM_c (Nat.le_of_ble_eq_true rfl)) 1) (by decide)) (Nat.le_of_ble_eq_true rfl) (by decide) (by omega) (fun v9 L9 s9 h9 hLE9 => ?_)
    obtain ⟨rfl, hLe, hO, ⟨S, hCC, hRW⟩, hk6, b, hCR⟩ := h9
    replace hLe := hLe.symm
    subst hLe
    obtain ⟨M4, R4⟩ := s9
    obtain ⟨o1, o2⟩ := hO _ w8
    have hCL := hCL3
    have m2 : M4 (9, 0, 0, 0) 2 = per := (congrFun o1 2).trans hV.2.2.2.1.1
    have m3 : M4 (9, 0, 0, 0) 3 = E := (congrFun o1 3).trans hV.2.2.2.1.2.1
    have m4 : M4 (9, 0, 0, 0) 4 = l.length := (congrFun o1 4).trans hV.2.2.2.1.2.2
    have m1 : 0 ≤ M4 (9, 0, 0, 0) 1 ∧ M4 (9, 0, 0, 0) 1 ≤ 100 := by rw [show M4 (9, 0, 0, 0) 1 = _ from congrFun o1 1]; exact hV.2.2.1
    have e5 : mgR R1 false (9, 0, 0, 0) = R1 (9, 0, 0, 0) := mgR_o w8
    have hR4 : R4 (9, 0, 0, 0) = R1 (9, 0, 0, 0) := (show R4 (9, 0, 0, 0) = _ from o2).trans (hV.2.1.1.trans e5)
    have k6 : M4 (6, 0, 0, 0) 2 = 0 := hk6
    have k0 : M4 (5, 0, 0, 0) 0 = per := hCC.1.1.1.trans hRW.1
    have k1 : M4 (5, 0, 0, 0) 1 = E := hCC.1.1.2.1.trans hRW.2.1
    have hLS : LST S b L3 (M4, R4) 100 := ⟨hCL, hCR, hCC, hw3, ⟨⟨m2.trans hRW.1.symm, m3.trans hRW.2.1.symm, m4.trans hRW.2.2.1.symm⟩, by rw [hRW.1]; exact hp, by rw [hRW.2.1]; exact hE, by rw [hRW.2.2.1]; omega⟩, by show R4 (9, 0, 0, 0) 0 = _; rw [hR4]; exact hr1, m1, by show R4 (9, 0, 0, 0) 5 = _; rw [hR4]; exact hfc1.1, hV.1.1 _ (List.mem_append_left _ hfc1.2.1), by show R4 (9, 0, 0, 0) 6 = _; rw [hR4]; exact hfc1.2.2.1, hV.1.1 _ (List.mem_append_left _ hfc1.2.2.2)⟩
    refine dw_aload1 (pc := 31) F dL_law_31 ?_
    refine dw_getI (pc := 32) F dL_law_32 fl_L_95 (by first | assumption | rfl) (by first | assumption | (simp [*]; done)) rfl nz4 ?_
    rw [m4]
    refine dw_icmp_ne (tgt := 67) (pc := 35) F dL_law_35 (by decide) (by unfold inR; omega) (by unfold inR; omega) (fun c35 => absurd c35 (fun z => z rfl)) (fun c35 => ?_)
    refine dw_aload2 (pc := 38) F dL_law_38 ?_
    refine dw_cp (as := []) (pc := 39) F dL_law_39 ml_L_125 (ct8_errorKind _ _) hCL hCR (fun v σ9 z => z) (Nat.le_of_ble_eq_true rfl) (by decide) (by omega) ?_
    rw [k6]
    refine dw_if_ne (tgt := 67) (pc := 42) F dL_law_42 (by decide) (by unfold inR; omega) (fun c42 => absurd c42 (fun z => z rfl)) (fun c42 => ?_)
    refine dw_aload2 (pc := 45) F dL_law_45 ?_
    refine dw_cp (as := []) (pc := 46) F dL_law_46 ml_L_104 (ct8_events _ _) hCL hCR (fun v σ9 z => z) (Nat.le_of_ble_eq_true rfl) (by decide) (by omega) ?_
    rw [k1]
    refine dw_aload1 (pc := 49) F dL_law_49 ?_
    refine dw_getI (pc := 50) F dL_law_50 fl_L_64 (by first | assumption | rfl) (by first | assumption | (simp [*]; done)) rfl nz3 ?_
    rw [m3]
    refine dw_icmp_ne (tgt := 67) (pc := 53) F dL_law_53 (by decide) (by unfold inR; omega) (by unfold inR; omega) (fun c53 => absurd c53 (fun z => z rfl)) (fun c53 => ?_)
    refine dw_aload2 (pc := 56) F dL_law_56 ?_
    refine dw_cp (as := []) (pc := 57) F dL_law_57 ml_L_100 (ct8_period _ _) hCL hCR (fun v σ9 z => z) (Nat.le_of_ble_eq_true rfl) (by decide) (by omega) ?_
    rw [k0]
    refine dw_aload1 (pc := 60) F dL_law_60 ?_
    refine dw_getI (pc := 61) F dL_law_61 fl_L_61 (by first | assumption | rfl) (by first | assumption | (simp [*]; done)) rfl nz2 ?_
    rw [m2]
    refine dw_icmp_eq (tgt := 69) (pc := 64) F dL_law_64 (by decide) (by unfold inR; omega) (by unfold inR; omega) (fun c64 => ?_) (fun c64 => absurd c64 (fun z => z rfl))
    exact last S b L3 M4 R4 _ (by omega) hLS
  refine dw_new (t := 9) (w := 1) F (by decide) dL_law_0 nc_9 cl_L_8 ni_9 df_9 (fun _ => rfl) (by decide) (by omega) ?_
  show DW X G ρ0 [] [(9, 0, 0, 0)] 3 [aR (30, 0, 0, 0), aX, aX] [aR (9, 0, 0, 0)] (zM (Mk G.2.2.2.2) (9, 0, 0, 0), zR Nk (9, 0, 0, 0)) 1 Q
  refine dw_dupR (pc := 3) F dL_law_3 ?_
  refine dw_callNV (as := []) (pc := 4) F dL_law_4 ml_L_116 (cdL_init _ _ _ _ rfl) (Nat.le_of_ble_eq_true rfl) (by decide) (by omega) (fun L9 s9 h9 hLE9 => ?_)
  obtain ⟨rfl, rfl⟩ := h9
  refine dw_astore1 (pc := 7) F dL_law_7 rfl hk.symm ?_
  refine dw_aload1 (pc := 8) F dL_law_8 ?_
  refine dw_aload0 (pc := 9) F dL_law_9 ?_
  refine dw_putR (pc := 10) F dL_law_10 fl_L_7 pg_9_0 (by first | assumption | rfl) (by first | assumption | (simp [*]; done)) rfl nz0 ?_
  have hL9 : ∀ q ∈ [((9, 0, 0, 0) : Id4), (12, 1, 0, 0), (12, 2, 0, 0), (12, 3, 0, 0)], 9 ≤ q.1 := by decide
  refine dw_new8 F hL9 dL_law_13 cl_L_34 (by omega) ?_
  refine dw_dupR (pc := 16) F dL_law_16 ?_
  refine dw_init8 F hL9 dL_law_17 ml_L_117 cn8_init (Nat.le_of_ble_eq_true rfl) (by decide) (by omega) ?_
  refine mid _ _ _ _ (by omega) hL9 (by simp) ?_ ?_ ⟨?_, by simp, ?_, by simp⟩
  · exact updR_at
  · rw [zM_ne (by decide), zM_ne (by decide), zM_ne (by decide), zM_same]
  · rfl
  · rfl
