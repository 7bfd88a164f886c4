/-! g0: the law makes its timetable -/
theorem Lord_8 : ∀ q ∈ Lord, q.1 ≤ 8 := by decide +kernel
theorem Lord_in : ∀ q ∈ Lord, q ∈ Lall := by decide +kernel
theorem Lord_ln : Lord.length = 203 := by decide +kernel
theorem Lord_tk : Lord.take 203 = Lord := List.take_of_length_le (by rw [Lord_ln]; omega)
theorem Lord_1 : Lord.take 1 = [(8, 0, 0, 0)] := by decide +kernel
theorem o_ord : ((8, 0, 0, 0) : Id4) ∈ Lord := by decide +kernel
theorem chk_8 : Lord.all (chk R8 (RXc false)) = true := by decide +kernel
theorem D_mk {A : Nat → Prop} {ρ : Id4 → Nat} {L : List Id4} (hn : L.Nodup) (hi : ∀ q ∈ L, ∀ q' ∈ L, ρ q = ρ q' → q = q') (hA : ∀ q ∈ L, A (ρ q)) : va_D A (wsA ρ L) := by
  refine ⟨fun i j x y hx hy e => ?_, fun k x hx => ?_⟩
  · unfold wsA at hx hy
    rw [List.getElem?_map] at hx hy
    cases hq : L[i]? with
    | none => rw [hq] at hx; cases hx
    | some q =>
      cases hq' : L[j]? with
      | none => rw [hq'] at hy; cases hy
      | some q' =>
        rw [hq] at hx
        rw [hq'] at hy
        cases hx
        cases hy
        have e2 := hi q (List.mem_of_getElem? hq) q' (List.mem_of_getElem? hq') e
        subst e2
        obtain ⟨l1, e1⟩ := List.getElem?_eq_some_iff.mp hq
        obtain ⟨l2, e2⟩ := List.getElem?_eq_some_iff.mp hq'
        rcases Nat.lt_trichotomy i j with z | z | z
        · exact absurd (e1.trans e2.symm) (List.pairwise_iff_getElem.mp hn i j l1 l2 z)
        · exact z
        · exact absurd (e2.trans e1.symm) (List.pairwise_iff_getElem.mp hn j i l2 l1 z)
  · unfold wsA at hx
    rw [List.getElem?_map] at hx
    cases hq : L[k]? with
    | none => rw [hq] at hx; cases hx
    | some q =>
      rw [hq] at hx
      cases hx
      exact hA q (List.mem_of_getElem? hq)
section MK8
variable {X : Cx} {G : Gd} {ρ0 : Id4 → Nat} {L0 L : List Id4} {cc : ByteArray} {own : String} {ret : Option FieldType} {d U pc u idx : Nat} {lv st : List AV} {M : Id4 → Int → Int} {Rf : Id4 → Int → Option Id4} {Q : State → Prop}
theorem DI.new8 {sx : Sx} (h : DI sx L (M, Rf)) (hL : ∀ q ∈ L, 9 ≤ q.1) : DI sx (L ++ [(8, 0, 0, 0)]) (zM M (8, 0, 0, 0), zR Rf (8, 0, 0, 0)) := by
  have hf : ((8, 0, 0, 0) : Id4) ∉ L := fun z => absurd (hL _ z) (by decide)
  obtain ⟨h1, h2, h3, h4, h5⟩ := h
  refine ⟨fun q hq => ?_, ⟨?_, fun q hq h8 => ?_⟩, fun q hq h9 => ?_, fun q hq k q2 e => ?_, h5.of (fun x hx => ?_)⟩
  · rcases List.mem_append.mp hq with z | z
    · exact h1 q z
    · rw [List.mem_singleton.mp z]; decide
  · rw [List.nodup_append]
    exact ⟨h2.1, List.nodup_cons.mpr ⟨List.not_mem_nil, List.nodup_nil⟩, fun a ha b hb => by rw [List.mem_singleton.mp hb]; exact fun z => hf (z ▸ ha)⟩
  · rcases List.mem_append.mp hq with z | z
    · exact h2.2 q z h8
    · rw [List.mem_singleton.mp z]; exact o_in
  · rw [List.length_append, List.length_singleton]
    rcases List.mem_append.mp hq with z | z
    · have := h3 q z h9
      omega
    · rw [List.mem_singleton.mp z] at h9
      exact absurd h9 (by decide)
  · rcases List.mem_append.mp hq with z | z
    · have e2 : zR Rf (8, 0, 0, 0) q k = Rf q k := congrFun (setR_ne (fun y => hf (by rw [← y]; exact z))) k
      exact (h4 q z k q2 (by rw [← e]; exact e2.symm)).le (LE.rf.app)
    · have e2 : zR Rf (8, 0, 0, 0) q k = none := by rw [List.mem_singleton.mp z]; exact congrFun (if_pos rfl) k
      rw [show (zM M (8, 0, 0, 0), zR Rf (8, 0, 0, 0)).2 q k = none from e2] at e
      cases e
  · have hne : x ≠ (8, 0, 0, 0) := fun z => by rw [z] at hx; exact absurd hx (by decide)
    exact ⟨if_neg hne, if_neg hne⟩
theorem dw_new8 (F : FD X G ρ0 cc own ret d U) (hL9 : ∀ q ∈ L, 9 ≤ q.1) (hd : decode cc pc = .ok (.new idx, 3)) (hcl : Cond.classLink own idx RX8 ∈ Gw) (hu : u + 1 ≤ U) (k : DW X G ρ0 L0 (L ++ [(8, 0, 0, 0)]) (pc + 3) lv (aR (8, 0, 0, 0) :: st) (zM M (8, 0, 0, 0), zR Rf (8, 0, 0, 0)) (u + 1) Q) : DW X G ρ0 L0 L pc lv (st) (M, Rf) u Q := by
  obtain ⟨p, l, e, R, s, m, args, below, meth, c⟩ := X
  obtain ⟨g, cy, A, nL, sx⟩ := G
  obtain ⟨hx, hb, hml, hown, hts, hK, hA, hlk, hret, hR, htr, hZ, hY⟩ := F
  intro ρ hρ hLE H locs ls hP hD hI hV hT hS hl
  subst hR
  have hf : ((8, 0, 0, 0) : Id4) ∉ L := fun z => absurd (hL9 _ z) (by decide)
  obtain ⟨r, hr1, hr2, hr3, hr4⟩ := nc_8
  rw [← hr2] at hcl
  obtain ⟨ty, hty, hdv⟩ := df_8 r hr1
  have hini : Cond.initialized r.1 ∈ Gw := by rw [hr2]; exact ni_8
  have hfs : ∀ ρ' : Id4 → Nat, flds ρ' (zM M (8, 0, 0, 0), zR Rf (8, 0, 0, 0)) (8, 0, 0, 0) 8 = (List.range (nfl 8)).map (fun k : Nat => if rfF 8 k then Value.null else Value.int 0) := by
    intro ρ'
    unfold flds
    refine List.map_congr_left (fun k _ => ?_)
    show (if rfF 8 k = true then va_rf ((setR Rf (8, 0, 0, 0) (fun _ => none) (8, 0, 0, 0) (k : Int)).map ρ') else Value.int (Int32.ofInt (setA M (8, 0, 0, 0) (fun _ => 0) (8, 0, 0, 0) (k : Int)))) = _
    rw [setR_same, setA_same]
    rfl
  have hw8 : nfl 8 ≤ 64 := by decide
  refine va_new (fs := (List.range (nfl 8)).map (fun k : Nat => if rfF 8 k then Value.null else Value.int 0)) (C := r.1) (T := r.2.1) (N := r.2.2) hx hb hts (clsOK 8 r hr1).2 ty hty hown (hts _ hcl) (hts _ hr4) (hts _ hini) hK hP (wsD hD _) hS hA hr1 (fun j hj => ?_) (by show u + 1 ≤ U; omega) (by show 64 * u + r.2.2 ≤ 64 * U; omega) hd (fun a H1 hP1 hD1 hS1 => ?_)
  · rw [hdv j hj]
    unfold vp_V
    rw [List.getD_eq_getElem?_getD, List.getElem?_map, List.getElem?_range (by omega)]
    by_cases hf : rfF 8 j = true
    · simp [hf]
    · simp [hf]
  have hE9 : ∀ ρ' : Id4 → Nat, ent ρ' cy (setA M (8, 0, 0, 0) (fun _ => 0), zR Rf (8, 0, 0, 0)) (8, 0, 0, 0) = .inr (8, (List.range (nfl 8)).map (fun k : Nat => if rfF 8 k then Value.null else Value.int 0)) := fun ρ' => by
    rw [ent_obj (t := 8) rfl, hfs]
  obtain ⟨ρ', g1, g2, g4, g5⟩ := growd (B := fun _ => 0) (q := (8, 0, 0, 0)) hf (by decide) hI.2.2.2.1 hP1 hD1 hE9
  have kk := k ρ' (hρ.tr hLE g1) hLE.app H1 locs ls g4 g5 (hI.new8 hL9) (hV.le LE.rf.app) (RFd.r (Or.inl (List.mem_append_right _ List.mem_cons_self)) (hT.le LE.rf.app)) hS1 (lh_agd g1 hV hl)
  refine W.widen (k := u + 1) (n := 64 * (u + 1)) (by omega) (by omega) ?_
  rw [← g2, ← st_agd g1 hT]
  exact kk
theorem dw_init8 {y : MethodName} {bc : ByteArray} {mL d2 U2 : Nat} (F : FD X G ρ0 cc own ret d U) (hL9 : ∀ q ∈ L, 9 ≤ q.1) (hd : decode cc pc = .ok (.invokespecial idx, 3)) (hl9 : MLId own idx y bc mL 0) (hc : CnV d2 U2 y bc mL 1 203 (8, 0, 0, 0) (Z0, N0) (fun σ' => σ' = (M8, R8))) (hst : stW st ≤ 8) (hdd : d2 + 1 ≤ d) (hu : u + U2 ≤ U) (k : DW X G ρ0 L0 (L ++ Lord) (pc + 3) lv st (mgM M M8, mgR Rf false) (u + U2) Q) : DW X G ρ0 L0 (L ++ [(8, 0, 0, 0)]) pc lv (aR (8, 0, 0, 0) :: st) (zM M (8, 0, 0, 0), zR Rf (8, 0, 0, 0)) u Q := by
  obtain ⟨p, l, e, R, s, m, args, below, meth, c⟩ := X
  obtain ⟨g, cy, A, nL, sx⟩ := G
  obtain ⟨hx, hb, hml, hown, hts, hK, hA, hlk, hret, hR, htr, hZ, hY⟩ := F
  intro ρ hρ hLE H locs ls hP hD hI hV hT hS hl
  subst hR
  have hRs : RFd (L ++ [(8, 0, 0, 0)]) st := hT.tl
  have hom : ((8, 0, 0, 0) : Id4) ∈ L ++ [(8, 0, 0, 0)] := List.mem_append_right _ List.mem_cons_self
  have hsub : LE [(8, 0, 0, 0)] (L ++ [(8, 0, 0, 0)]) := fun q hq => List.mem_append_right _ hq
  have hD1 : va_D A (wsA ρ (Lord.take 1)) := by rw [Lord_1]; exact D_sub hsub (List.nodup_cons.mpr ⟨List.not_mem_nil, List.nodup_nil⟩) hD
  have hP1 : va_P g vwCl (wsOf ρ cy (Lord.take 1) (Z0, N0)) H := by
    rw [Lord_1]
    have e : wsOf ρ cy [(8, 0, 0, 0)] (zM M (8, 0, 0, 0), zR Rf (8, 0, 0, 0)) = wsOf ρ cy [(8, 0, 0, 0)] (Z0, N0) := ws_loc (fun q hq => by
      rw [List.mem_singleton.mp hq]
      exact ⟨funext fun k => (show zM M (8, 0, 0, 0) (8, 0, 0, 0) k = 0 from zM_same), (setR_same : setR Rf (8, 0, 0, 0) (fun _ => none) (8, 0, 0, 0) = fun _ => none)⟩)
    rw [← e]
    exact P_sub hsub hP
  have hf9 := Aof_A hD1 hA hS.1
  have hM := hc l g cy ρ H.size
  have hpre : PreS s H (va_Pc [.ref (ρ (8, 0, 0, 0))] (WRn g cy ρ 1 (Z0, N0) H.size)) (.ref (ρ (8, 0, 0, 0)) :: []) := ⟨WRn_blind, fun V hV hW => ⟨rfl, by rw [hV], by rw [hV]; exact hP1, va_K.moved hW.alike hK, hD1.weaken (fun _ _ _ _ => trivial), (fun q k q2 h => by cases h), NV.warm hW hY.1⟩⟩
  refine va_callv (va_runI (As := []) (rest := st.map (cv ρ)) ⟨hx, hb, hml, hown, hts⟩ hM (cwI 0 hts (gwIn (gwCons hl9.2.2.2.2.2.2)) rfl rfl rfl (hts _ hl9.2.2.2.2.2.1) (hts _ hl9.2.2.1) (hts _ hl9.2.2.2.2.1) hl9.2.2.2.1 hl9.1 ⟨hdd, by have := hl9.2.1; show 8 + (mL + 11) + 80 * d2 ≤ 80 * d; omega⟩) hpre rfl rfl hl.1 rfl (lv_room (Nat.le_trans (st_cat st) hst)) hd ⟨hu, by show 64 * u + 64 * U2 ≤ 64 * U; omega⟩) hS (fun q _ h => hf9 q h) hf9 (fun u9 t9 H1 locs1 ht hvm hw hB hz1 hk1 hS1 => ?_)
  obtain ⟨hw1, hw2, hw3⟩ := hw
  obtain ⟨hB1, hB2, hB3⟩ := hB
  obtain ⟨⟨M9, R9⟩, ρ2⟩ := u9
  dsimp only at hw1 hw2 hw3 hB1 hB2 hB3
  cases hw1
  rw [Lord_tk] at hB1 hB2
  have hno : ∀ x : Id4, 9 ≤ x.1 → x ∉ Lord := fun x hx z => by have := Lord_8 x z; omega
  have hag : AGd (L ++ [(8, 0, 0, 0)]) ρ ρ2 := fun x hx => hw2 x (by
    rcases hx with hx | hx
    · rcases List.mem_append.mp hx with z | z
      · exact Or.inr (hno x (hL9 x z))
      · exact Or.inl (by rw [Lord_1]; exact z)
    · exact Or.inr (hno x (by omega)))
  have hLE2 : LE (L ++ [(8, 0, 0, 0)]) (L ++ Lord) := fun x hx => by
    rcases List.mem_append.mp hx with z | z
    · exact List.mem_append_left _ z
    · rw [List.mem_singleton.mp z]; exact List.mem_append_right _ o_ord
  have hLm : ∀ q ∈ L, q ∈ L ++ [(8, 0, 0, 0)] := fun q hq => List.mem_append_left _ hq
  have hne8 : ∀ q ∈ L, q ≠ (8, 0, 0, 0) := fun q hq z => absurd (hL9 q hq) (by rw [z]; decide)
  have hout : ∀ q ∈ L, ρ q < H.size ∧ ¬ Aof ρ (Lord.take 1) H.size (ρ q) := fun q hq => by
    have h1 := at_lt (P_at hP (hLm q hq))
    refine ⟨h1, fun z => ?_⟩
    rcases z with ⟨i, hi, e⟩ | z
    · rw [Lord_1] at hi
      have e2 := D_inj hD (hLm q hq) hom (by rw [e, List.mem_singleton.mp hi])
      exact hne8 q hq e2
    · dsimp only at h1
      omega
  have hP9 : va_P g vwCl (wsOf ρ2 cy (L ++ Lord) (mgM M M8, mgR Rf false)) H1 := by
    intro k x hx
    unfold wsOf at hx
    rw [List.getElem?_map] at hx
    cases hq : (L ++ Lord)[k]? with
    | none => rw [hq] at hx; cases hx
    | some q =>
      rw [hq] at hx
      cases hx
      show va_at g vwCl (ρ2 q, ent ρ2 cy (mgM M M8, mgR Rf false) q) H1
      rcases List.mem_append.mp (List.mem_of_getElem? hq) with z | z
      · have h9 := hL9 q z
        have h := P_at hP (hLm q z)
        rw [ent_loc (σ := (zM M (8, 0, 0, 0), zR Rf (8, 0, 0, 0))) (σ' := (mgM M M8, mgR Rf false)) ((mgM_o (by omega)).trans (zM_ne (hne8 q z)).symm) ((mgR_o (by omega)).trans (zR_ne (hne8 q z)).symm), hag q (Or.inl (hLm q z)), ent_agd hag hI.2.2.2.1 (hLm q z)]
        exact at_kept h (hk1 _ (hout q z).1 (hout q z).2)
      · have h8 := Lord_8 q z
        rw [ent_loc (σ := (M8, RXc false)) (σ' := (mgM M M8, mgR Rf false)) (mgM_c h8) (mgR_c h8)]
        refine va_at_chk (R := R8) (List.all_eq_true.mp chk_8 q z) ?_
        have h := P_at hB1 z
        rw [ht] at h
        exact h
  have hin : ∀ q ∈ Lord, Aof ρ (Lord.take 1) H.size (ρ2 q) := fun q hq => wsA_D hB2 q hq
  have hD9 : va_D A (wsA ρ2 (L ++ Lord)) := by
    refine D_mk ?_ (fun q hq q' hq' e => ?_) (fun q hq => ?_)
    · rw [List.nodup_append]
      refine ⟨(List.nodup_append.mp hI.2.1.1).1, Lord_nodup, fun a ha b hb z => ?_⟩
      have := hL9 a ha
      have := Lord_8 b hb
      rw [z] at *
      omega
    · rcases List.mem_append.mp hq with z | z <;> rcases List.mem_append.mp hq' with z' | z'
      · rw [hag q (Or.inl (hLm q z)), hag q' (Or.inl (hLm q' z'))] at e
        exact D_inj hD (hLm q z) (hLm q' z') e
      · rw [hag q (Or.inl (hLm q z))] at e
        exact absurd (e ▸ hin q' z') (hout q z).2
      · rw [hag q' (Or.inl (hLm q' z'))] at e
        exact absurd (e.symm ▸ hin q z) (hout q' z').2
      · exact D_inj hB2 z z' e
    · rcases List.mem_append.mp hq with z | z
      · rw [hag q (Or.inl (hLm q z))]
        exact wsA_D hD q (hLm q z)
      · exact hf9 _ (hin q z)
  have hI9 : DI sx (L ++ Lord) (mgM M M8, mgR Rf false) := by
    obtain ⟨i1, i2, i3, i4, i5⟩ := hI
    refine ⟨fun q hq => ?_, ⟨?_, fun q hq h8 => ?_⟩, fun q hq h9 => ?_, fun q hq k q2 e => ?_, i5.of (fun x hx => ?_)⟩
    · rcases List.mem_append.mp hq with z | z
      · exact i1 q (hLm q z)
      · have := Lord_8 q z; omega
    · rw [List.nodup_append]
      refine ⟨(List.nodup_append.mp i2.1).1, Lord_nodup, fun a ha b hb z => ?_⟩
      have := hL9 a ha
      have := Lord_8 b hb
      rw [z] at *
      omega
    · rcases List.mem_append.mp hq with z | z
      · have := hL9 q z; omega
      · exact Lord_in q z
    · rcases List.mem_append.mp hq with z | z
      · have := i3 q (hLm q z) h9
        rw [List.length_append] at this ⊢
        rw [Lord_ln]
        simp only [List.length] at this
        omega
      · have := Lord_8 q z; omega
    · rcases List.mem_append.mp hq with z | z
      · have h9 := hL9 q z
        have e2 : (zM M (8, 0, 0, 0), zR Rf (8, 0, 0, 0)).2 q k = some q2 := by
          rw [← e]
          exact congrFun ((zR_ne (hne8 q z)).trans (mgR_o (by omega)).symm) k
        exact (i4 q (hLm q z) k q2 e2).le hLE2
      · have h8 := Lord_8 q z
        have e2 : RXc false q k = some q2 := by rw [← e]; exact (congrFun (mgR_c h8) k).symm
        exact Or.inl (List.mem_append_right _ (Lord_sub _ (RX_in (Lord_in q z) e2)))
    · have hne : x ≠ (8, 0, 0, 0) := fun z => by rw [z] at hx; exact absurd hx (by decide)
      exact ⟨(mgM_o (by omega)).trans (zM_ne hne).symm, (mgR_o (by omega)).trans (zR_ne hne).symm⟩
  have kk := k ρ2 (hρ.tr hLE hag) (hLE.tr hLE2) H1 locs1 ls hP9 hD9 hI9 (hV.le hLE2) (hRs.le hLE2) hS1 (lh_agd hag hV hl)
  have e9 : (aR (8, 0, 0, 0) :: st).map (cv ρ) = Value.ref (ρ (8, 0, 0, 0)) :: st.map (cv ρ) := rfl
  rw [← st_agd hag hRs]
  rw [show 64 * u + 64 * U2 = 64 * (u + U2) by omega]
  exact kk
end MK8
