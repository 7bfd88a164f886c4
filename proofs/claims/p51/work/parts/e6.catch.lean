/-! e6: the law's methods that catch -/
theorem mh_178 : MLH RL 178 yL_hasNoneBroken cL_hasNoneBroken 2 (some .boolean) [(0, 14, 15, 184)] 1 := ⟨by decide +kernel, by decide, (gwI 1016 (by decide +kernel) rfl), (gwI 1017 (by decide +kernel) rfl), (gwI 43 (by decide +kernel) rfl), (gwI 1018 (by decide +kernel) rfl)⟩
theorem mh_204 : MLH RL 204 yL_isHopeless cL_isHopeless 2 (some .boolean) [(0, 14, 15, 184)] 1 := ⟨by decide +kernel, by decide, (gwI 1170 (by decide +kernel) rfl), (gwI 1171 (by decide +kernel) rfl), (gwI 43 (by decide +kernel) rfl), (gwI 1172 (by decide +kernel) rfl)⟩
theorem mh_145 : MLH RL 145 yL_isNoEvent cL_isNoEvent 2 (some .boolean) [(0, 16, 17, 222)] 1 := ⟨by decide +kernel, by decide, (gwI 1213 (by decide +kernel) rfl), (gwI 1214 (by decide +kernel) rfl), (gwI 43 (by decide +kernel) rfl), (gwI 1215 (by decide +kernel) rfl)⟩
theorem mh_148 : MLH RL 148 yL_isBad cL_isBad 2 (some .boolean) [(0, 16, 17, 227)] 1 := ⟨by decide +kernel, by decide, (gwI 1217 (by decide +kernel) rfl), (gwI 1218 (by decide +kernel) rfl), (gwI 43 (by decide +kernel) rfl), (gwI 1219 (by decide +kernel) rfl)⟩
section HCC
variable {X : Cx} {G : Gd} {ρ0 : Id4 → Nat} {L0 L : List Id4} {cc bc : ByteArray} {own : String} {ret ry : Option FieldType} {d U d2 U2 pc u mL idx : Nat} {lv st as : List AV} {M : Id4 → Int → Int} {Rf : Id4 → Int → Option Id4} {y : MethodName} {Q : State → Prop} {b : Bool}
theorem dw_hcc {hh : List (Nat × Nat × Nat × Nat)} {Q2 : Int → Hp → Prop} {Pv : Int → Prop} {S : Int → Int} (F : FD X G ρ0 cc own ret d U) (hd : decode cc pc = .ok (.invokestatic idx, 3)) (hl9 : MLH own idx y bc mL ry hh 1) (hc : CtH d2 U2 y bc mL ry hh [aR (8, 0, 0, 0)] (M, R0 b) Q2) (hCL : CLd L) (hCR : CRx b Rf) (hQ : ∀ v σ', Q2 v σ' → Pv v ∧ ∃ M', σ' = (M', R0 b) ∧ CC S M') (hst : stW st ≤ 8) (hdd : d2 + 1 ≤ d) (hu : u + U2 ≤ U) (k : ∀ (v : Int) (M' : Id4 → Int → Int), Pv v → CC S M' → (∀ q : Id4, ¬ q.1 ≤ 8 → M' q = M q) → DW X G ρ0 L0 L (pc + 3) lv (aI v :: st) (M', Rf) (u + U2) Q) : DW X G ρ0 L0 L pc lv (aR (8, 0, 0, 0) :: st) (M, Rf) u Q :=
  dw_hcall F hd hl9 hc hCL hCR.cr (fun v σ' h => by
    obtain ⟨-, M', e, -⟩ := hQ v σ' h
    exact ⟨b, by rw [e]⟩) hst hdd hu (fun v M' b' h => by
    obtain ⟨e1, M1, e2, e5⟩ := hQ _ _ h
    have e3 := congrArg Prod.fst e2
    have e4 := R0_in (congrArg Prod.snd e2)
    dsimp only at e3
    rw [e4, hCR.self]
    exact k v (mgM M M') e1 (e3 ▸ e5).mg (fun q hq => mgM_o hq))
end HCC
theorem ch_hasNone (M : Id4 → Int → Int) (b : Bool) (S : Int → Int) (hCC : CC S M) (hfb : ¬ fbS S < S 20) : CtH 14 1 yL_hasNoneBroken cL_hasNoneBroken 2 (some .boolean) [(0, 14, 15, 184)] [aR (8, 0, 0, 0)] (M, R0 b) (fun v σ' => v = 1 ∧ σ' = (M, R0 b)) := by
  refine CtH.mk (by decide +kernel) rfl (Nat.le_of_ble_eq_true rfl) (fun X K F hT hk => ?_)
  refine aw_aload0 (pc := 0) F dL_hasNoneBroken_0 ?_
  refine aw_hcallVI (pc := 1) (as9 := []) F dL_hasNoneBroken_1 ml_L_181 rfl (by first | decide | (simp only [inB, cnt, rcnt]; omega)) (cx8_firstBroken M b S hCC.1 hCC.2.1) (Nat.le_of_ble_eq_true rfl) (by decide) (by omega) (fun E σ9 h9 => ?_) (fun v σ9 h9 => ?_)
  · obtain ⟨rfl, rfl, -⟩ := h9
    refine aw_catch F hT (by decide +kernel) [] (0, 14, 15, 184) [] rfl (fun z hz => absurd hz List.not_mem_nil) (by decide) (by decide) (gwI 1019 (by decide +kernel) rfl) (k9 := 1) (n9 := 1) (Or.inr ⟨1, rfl, rfl, dL_hasNoneBroken_15⟩) (by rfl) hk.symm (Nat.le_of_ble_eq_true rfl) ?_
    refine aw_iconst (pc := 16) F dL_hasNoneBroken_16 ?_
    exact aw_iret (pc := 17) F dL_hasNoneBroken_17 (nar_bool (by decide)) (by omega) ⟨rfl, rfl⟩
  · exact absurd h9.2.2 hfb
theorem ch_hopeless (M : Id4 → Int → Int) (b : Bool) (S : Int → Int) (hCC : CC S M) (hg : (goS S 1).1 = -1) : CtH 31 1 yL_isHopeless cL_isHopeless 2 (some .boolean) [(0, 14, 15, 184)] [aR (8, 0, 0, 0)] (M, R0 b) (fun v σ' => v = 1 ∧ ∃ M', σ' = (M', R0 b) ∧ CC S M') := by
  obtain ⟨h1, h2, nx, Hs, h3⟩ := id hCC
  refine CtH.mk (by decide +kernel) rfl (Nat.le_of_ble_eq_true rfl) (fun X K F hT hk => ?_)
  refine aw_aload0 (pc := 0) F dL_isHopeless_0 ?_
  refine aw_hcallVI (pc := 1) (as9 := []) F dL_isHopeless_1 ml_L_213 rfl (by first | decide | (simp only [inB, cnt, rcnt]; omega)) (cx8_solve M b S nx 0 Hs h1 h2 h3) (Nat.le_of_ble_eq_true rfl) (by decide) (by omega) (fun E σ9 h9 => ?_) (fun v σ9 h9 => ?_)
  · obtain ⟨⟨rfl, -⟩, M9, rfl, hs⟩ := h9
    refine aw_catch F hT (by decide +kernel) [] (0, 14, 15, 184) [] rfl (fun z hz => absurd hz List.not_mem_nil) (by decide) (by decide) (gwI 1019 (by decide +kernel) rfl) (k9 := 1) (n9 := 1) (Or.inr ⟨1, rfl, rfl, dL_isHopeless_15⟩) (by rfl) hk.symm (Nat.le_of_ble_eq_true rfl) ?_
    refine aw_aload0 (pc := 16) F dL_isHopeless_16 ?_
    refine aw_callVI0 (pc := 17) F dL_isHopeless_17 ml_L_219 rfl (by first | decide | (simp only [inB, cnt, rcnt]; omega)) (ct8_undo M9 b nx 0 Hs (h3.s8 hs)) (Nat.le_of_ble_eq_true rfl) (by decide) (by omega) (fun v9 σ9 h9 => ?_)
    obtain ⟨M8, nx8, rfl, -, z⟩ := h9
    rcases z with ⟨-, rfl, rfl⟩ | z
    · refine aw_iconst (pc := 20) F dL_isHopeless_20 ?_
      refine aw_icmp_ne (tgt := 28) (pc := 21) F dL_isHopeless_21 (by decide) (by unfold inR; decide) (by unfold inR; decide) (fun c => absurd rfl c) (fun c => ?_)
      refine aw_iconst (pc := 24) F dL_isHopeless_24 ?_
      refine aw_goto (tgt := 29) (pc := 25) F dL_isHopeless_25 (by decide) ?_
      exact aw_iret (pc := 29) F dL_isHopeless_29 (nar_bool (by decide)) (by omega) ⟨rfl, _, rfl, pl_s8 hCC hs⟩
    · exact absurd z.1 (by decide)
  · exact absurd hg h9.2.1
theorem ch_noEvent (M : Id4 → Int → Int) (b : Bool) (S : Int → Int) (hR1 : plR M 0 S) (hR2 : Ok S) (hE : S 1 ≤ 5) : CtH 14 1 yL_isNoEvent cL_isNoEvent 2 (some .boolean) [(0, 16, 17, 222)] [aR (8, 0, 0, 0)] (M, R0 b) (fun v σ' => v = 1 ∧ σ' = (M, R0 b)) := by
  refine CtH.mk (by decide +kernel) rfl (Nat.le_of_ble_eq_true rfl) (fun X K F hT hk => ?_)
  refine aw_aload0 (pc := 0) F dL_isNoEvent_0 ?_
  refine aw_bipush (pc := 1) F dL_isNoEvent_1 (by decide) ?_
  refine aw_hcallVI (pc := 3) (as9 := [_]) F dL_isNoEvent_3 ml_L_106 rfl (by first | decide | (simp only [inB, cnt, rcnt]; omega)) (cx8_time M b S 6 (by unfold inR; decide) hR1 hR2) (Nat.le_of_ble_eq_true rfl) (by decide) (by omega) (fun E σ9 h9 => ?_) (fun v σ9 h9 => ?_)
  · obtain ⟨rfl, rfl, -⟩ := h9
    refine aw_catch F hT (by decide +kernel) [] (0, 16, 17, 222) [] rfl (fun z hz => absurd hz List.not_mem_nil) (by decide) (by decide) (gwI 1216 (by decide +kernel) rfl) (k9 := 1) (n9 := 1) (Or.inr ⟨1, rfl, rfl, dL_isNoEvent_17⟩) (by rfl) hk.symm (Nat.le_of_ble_eq_true rfl) ?_
    refine aw_iconst (pc := 18) F dL_isNoEvent_18 ?_
    exact aw_iret (pc := 19) F dL_isNoEvent_19 (nar_bool (by decide)) (by omega) ⟨rfl, rfl⟩
  · have := h9.2.2
    omega
theorem ch_bad (M : Id4 → Int → Int) (b : Bool) (S : Int → Int) (nx n : Int) (Hs : Int → Int → Int) (h1 : plR M 0 S) (h2 : Ok S) (h3 : hR8 M nx n Hs) : CtH 14 2 yL_isBad cL_isBad 2 (some .boolean) [(0, 16, 17, 227)] [aR (8, 0, 0, 0)] (M, R0 b) (fun v σ' => v = 1 ∧ σ' = (M, R0 b)) := by
  refine CtH.mk (by decide +kernel) rfl (Nat.le_of_ble_eq_true rfl) (fun X K F hT hk => ?_)
  refine aw_aload0 (pc := 0) F dL_isBad_0 ?_
  refine aw_bipush (pc := 1) F dL_isBad_1 (by decide) ?_
  refine aw_hcallVI (pc := 3) (as9 := [_]) F dL_isBad_3 ml_L_224 rfl (by first | decide | (simp only [inB, cnt, rcnt]; omega)) (cx8_setPeriod M b S nx n Hs 25 (by unfold inR; decide) h1 h2 h3) (Nat.le_of_ble_eq_true rfl) (by decide) (by omega) (fun E σ9 h9 => ?_) (fun v σ9 h9 => ?_)
  · obtain ⟨rfl, h9⟩ := h9
    rcases h9 with ⟨rfl, -⟩ | h9
    · refine aw_catch F hT (by decide +kernel) [] (0, 16, 17, 227) [] rfl (fun z hz => absurd hz List.not_mem_nil) (by decide) (by decide) (gwI 1220 (by decide +kernel) rfl) (k9 := 1) (n9 := 1) (Or.inr ⟨1, rfl, rfl, dL_isBad_17⟩) (by rfl) hk.symm (Nat.le_of_ble_eq_true rfl) ?_
      refine aw_iconst (pc := 18) F dL_isBad_18 ?_
      exact aw_iret (pc := 19) F dL_isBad_19 (nar_bool (by decide)) (by omega) ⟨rfl, rfl⟩
    · exact absurd h9.2.1 (by decide)
  · exact absurd h9.2.1.1 (by decide)
