/-! 72: the String constants: length, charAt -/
/-- what a call of a String's method asks of the tables -/
def MLT (own : String) (idx : Nat) (y : MethodName) (bc : ByteArray) (mL : Nat) (ret : Option FieldType) (n : Nat) : Prop :=
  y.cls = "java/lang/String" ∧ (y.cls ≠ "java/lang/invoke/MethodHandle" ∧ y.cls ≠ "java/lang/invoke/VarHandle" ∧ (parseMethodDescriptor y.desc).map (fun d => d.parameters.length) = some n) ∧ mL ≤ 40 ∧ Cond.methodLink own idx y ∈ Gw ∧ Cond.instanceMethod y ∈ Gw ∧ Cond.selects y.cls y y ∈ Gw ∧ Cond.initialized y.cls ∈ Gw ∧ Cond.code y bc mL ret ∈ Gw
theorem sl_value : Cond.fieldLink "java/lang/String" 9 "java/lang/String" "value" "[B" ∈ Gw := (gwI 878 (by decide +kernel) rfl)
theorem sl_coder : Cond.fieldLink "java/lang/String" 15 "java/lang/String" "coder" "B" ∈ Gw := (gwI 879 (by decide +kernel) rfl)
theorem sl_comp : Cond.fieldLink "java/lang/String" 38 "java/lang/String" "COMPACT_STRINGS" "Z" ∈ Gw := (gwI 418 (by decide +kernel) rfl)
theorem sl_fmt : Cond.fieldLink "java/lang/String" 1053 "jdk/internal/util/Preconditions" "SIOOBE_FORMATTER" "Ljava/util/function/BiFunction;" ∈ Gw := (gwI 437 (by decide +kernel) rfl)
theorem sm_coder : MLT "java/lang/String" 335 yJ0_coder_7d493 cJ0_coder_7d493 1 (some .byte) 0 := ⟨rfl, by decide +kernel, by decide, (gwI 414 (by decide +kernel) rfl), (gwI 415 (by decide +kernel) rfl), (gwI 416 (by decide +kernel) rfl), (gwI 55 (by decide +kernel) rfl), (gwI 417 (by decide +kernel) rfl)⟩
theorem sm_isLatin1 : MLT "java/lang/String" 492 yJ0_isLatin1_aae02 cJ0_isLatin1_aae02 1 (some .boolean) 0 := ⟨rfl, by decide +kernel, by decide, (gwI 427 (by decide +kernel) rfl), (gwI 428 (by decide +kernel) rfl), (gwI 429 (by decide +kernel) rfl), (gwI 55 (by decide +kernel) rfl), (gwI 430 (by decide +kernel) rfl)⟩
theorem sm_charAt1 : MLS "java/lang/String" 495 yJ1_charAt_3b067 cJ1_charAt_3b067 2 (some .char) 2 := ⟨by decide +kernel, by decide, (gwI 431 (by decide +kernel) rfl), (gwI 432 (by decide +kernel) rfl), (gwI 62 (by decide +kernel) rfl), (gwI 433 (by decide +kernel) rfl)⟩
theorem sm_check : MLS "java/lang/StringLatin1" 9 yJ0_checkIndex_df160 cJ0_checkIndex_df160 2 none 2 := ⟨by decide +kernel, by decide, (gwI 434 (by decide +kernel) rfl), (gwI 435 (by decide +kernel) rfl), (gwI 55 (by decide +kernel) rfl), (gwI 436 (by decide +kernel) rfl)⟩
theorem sm_pcheck : MLS "java/lang/String" 1059 yJ3_checkIndex_8e157 cJ3_checkIndex_8e157 3 (some .int) 3 := ⟨by decide +kernel, by decide, (gwI 439 (by decide +kernel) rfl), (gwI 440 (by decide +kernel) rfl), (gwI 61 (by decide +kernel) rfl), (gwI 441 (by decide +kernel) rfl)⟩
theorem ml_6_130 : MLT RX6 130 yJ0_length_8abf5 cJ0_length_8abf5 1 (some .int) 0 := ⟨rfl, by decide +kernel, by decide, (gwI 580 (by decide +kernel) rfl), (gwI 411 (by decide +kernel) rfl), (gwI 412 (by decide +kernel) rfl), (gwI 55 (by decide +kernel) rfl), (gwI 413 (by decide +kernel) rfl)⟩
theorem ml_6_136 : MLT RX6 136 yJ0_charAt_5068e cJ0_charAt_5068e 2 (some .char) 1 := ⟨rfl, by decide +kernel, by decide, (gwI 581 (by decide +kernel) rfl), (gwI 424 (by decide +kernel) rfl), (gwI 425 (by decide +kernel) rfl), (gwI 55 (by decide +kernel) rfl), (gwI 426 (by decide +kernel) rfl)⟩
theorem MLT.cw {own : String} {idx : Nat} {y : MethodName} {bc : ByteArray} {mL : Nat} {ret : Option FieldType} {n d d2 U U2 : Nat} {s : State} {args : Array Value} (h : MLT own idx y bc mL ret n) (hts : ∀ w ∈ Gw, w.before args s = true) (hd : d2 + 1 ≤ d) : CallW (rmOf d U) s args own y.cls idx y bc mL ret (Cond.code y bc mL ret :: Gw) (rmOf d2 U2) U2 (64 * U2) n := by
  obtain ⟨-, h2, h3, h4, h5, h6, h7, h8⟩ := h
  refine cwV n hts (gwIn (fun w hw => ?_)) rfl rfl rfl ⟨rfl, h2⟩ ⟨hd, by show 8 + (mL + 11) + 80 * d2 ≤ 80 * d; omega⟩
  unfold wsV at hw
  rcases List.mem_append.mp hw with hw | hw
  · simp only [List.mem_cons, List.not_mem_nil, or_false] at hw
    rcases hw with rfl | rfl | rfl | rfl <;> assumption
  · exact gwCons h8 w hw
section
variable {X : Cx} {K : Kx} {cc : ByteArray} {own : String} {ret : Option FieldType} {d U pc u : Nat} {lv st : List AV} {M : Id4 → Int → Int} {Rf : Id4 → Int → Option Id4} {Q : State → Prop} {tb : Bool}
theorem aw_ldcS (F : Fx X K cc own ret d U tb) {idx : Nat} {tx : String} {i : Int} (hd : decode cc pc = .ok (.ldc idx, 2)) (hw : (own, idx, tx, i) ∈ WL) (k : AW X K (pc + 2) lv (aR (20, i, 0, 0) :: st) (M, Rf) u Q) : AW X K pc lv st (M, Rf) u Q := by
  obtain ⟨p, l, e, R, s, m, args, below, meth, c⟩ := X
  obtain ⟨g, cy, A, nL, ρ, L⟩ := K
  obtain ⟨hx, hb, hml, hown, hts, hK, hnd, hD, hA, hlk, hret, hR, htr, hZ, hE⟩ := F
  obtain ⟨z1, z2, z3, z4, z5, z6, z7, z8⟩ := hZ
  intro H locs ls hP hS hl
  exact va_ldcS hx hb hown (z5 _ hw) hd (k H locs ls hP hS hl)
theorem aw_tlen (F : Fx X K cc own ret d U tb) {j : Nat} {v : Int} (hj : j < 3) (hv : ((wLen.getD j 0 : Nat) : Int) = v) (hd : decode cc pc = .ok (.arraylength, 1)) (k : AW X K (pc + 1) lv (aI v :: st) (M, Rf) u Q) : AW X K pc lv (aR (21, (j : Int), 0, 0) :: st) (M, Rf) u Q := by
  obtain ⟨p, l, e, R, s, m, args, below, meth, c⟩ := X
  obtain ⟨g, cy, A, nL, ρ, L⟩ := K
  obtain ⟨hx, hb, hml, hown, hts, hK, hnd, hD, hA, hlk, hret, hR, htr, hZ, hE⟩ := F
  obtain ⟨z1, z2, z3, z4, z5, z6, z7, z8⟩ := hZ
  intro H locs ls hP hS hl
  subst hv
  exact va_tlen hx hb (z6.1 j (by omega)).2.2.2 hS rfl hd (k H locs ls hP hS hl)
theorem aw_tbald (F : Fx X K cc own ret d U tb) {j : Nat} {i : Nat} {v : Int32} {v9 : Int} (hj : j < 3) (hi : i < wLen.getD j 0) (hi2 : wLen.getD j 0 ≤ 100) (hv : (wByt.getD j []).getD i 0 = v) (hv9 : Int32.ofInt v9 = v) (hd : decode cc pc = .ok (.baload, 1)) (k : AW X K (pc + 1) lv (aI v9 :: st) (M, Rf) u Q) : AW X K pc lv (aI i :: aR (21, (j : Int), 0, 0) :: st) (M, Rf) u Q := by
  obtain ⟨p, l, e, R, s, m, args, below, meth, c⟩ := X
  obtain ⟨g, cy, A, nL, ρ, L⟩ := K
  obtain ⟨hx, hb, hml, hown, hts, hK, hnd, hD, hA, hlk, hret, hR, htr, hZ, hE⟩ := F
  obtain ⟨z1, z2, z3, z4, z5, z6, z7, z8⟩ := hZ
  intro H locs ls hP hS hl
  have e9 : (Int32.ofInt (i : Int)).toNatClampNeg = i := by rw [oi_nat (by omega) (by omega)]; omega
  exact va_tb hx hb (z6.1 j (by omega)).2.2.2 hS (oi_in (by omega) (by omega) (by omega)) (by rw [e9, hv, ← hv9]; rfl) hd (k H locs ls hP hS hl)
theorem aw_sget (F : Fx X K cc "java/lang/String" ret d U tb) {j : Nat} (hj : j < 3) (hd : decode cc pc = .ok (.getfield 9, 3)) (k : AW X K (pc + 3) lv (aR (21, (j : Int), 0, 0) :: st) (M, Rf) u Q) : AW X K pc lv (aR (20, (j : Int), 0, 0) :: st) (M, Rf) u Q := by
  obtain ⟨p, l, e, R, s, m, args, below, meth, c⟩ := X
  obtain ⟨g, cy, A, nL, ρ, L⟩ := K
  obtain ⟨hx, hb, hml, hown, hts, hK, hnd, hD, hA, hlk, hret, hR, htr, hZ, hE⟩ := F
  obtain ⟨z1, z2, z3, z4, z5, z6, z7, z8⟩ := hZ
  intro H locs ls hP hS hl
  exact vk_getf hx hb (z6.1 j (by omega)).2.2.1 hS hown (hts _ sl_value) (fun _ h => h) hd (k H locs ls hP hS hl)
theorem aw_scod (F : Fx X K cc "java/lang/String" ret d U tb) {j : Nat} (hj : j < 3) (hd : decode cc pc = .ok (.getfield 15, 3)) (k : AW X K (pc + 3) lv (aI 0 :: st) (M, Rf) u Q) : AW X K pc lv (aR (20, (j : Int), 0, 0) :: st) (M, Rf) u Q := by
  obtain ⟨p, l, e, R, s, m, args, below, meth, c⟩ := X
  obtain ⟨g, cy, A, nL, ρ, L⟩ := K
  obtain ⟨hx, hb, hml, hown, hts, hK, hnd, hD, hA, hlk, hret, hR, htr, hZ, hE⟩ := F
  obtain ⟨z1, z2, z3, z4, z5, z6, z7, z8⟩ := hZ
  intro H locs ls hP hS hl
  exact vk_getf hx hb (z6.1 j (by omega)).2.1 hS hown (hts _ sl_coder) (fun _ h => h) hd (k H locs ls hP hS hl)
theorem aw_comp (F : Fx X K cc "java/lang/String" ret d U tb) (hd : decode cc pc = .ok (.getstatic 38, 3)) (k : AW X K (pc + 3) lv (aI 1 :: st) (M, Rf) u Q) : AW X K pc lv st (M, Rf) u Q := by
  obtain ⟨p, l, e, R, s, m, args, below, meth, c⟩ := X
  obtain ⟨g, cy, A, nL, ρ, L⟩ := K
  obtain ⟨hx, hb, hml, hown, hts, hK, hnd, hD, hA, hlk, hret, hR, htr, hZ, hE⟩ := F
  obtain ⟨z1, z2, z3, z4, z5, z6, z7, z8⟩ := hZ
  intro H locs ls hP hS hl
  exact va_gets hx hb z7.1 hS hown (hts _ sl_comp) (fun _ h => h) hd (k H locs ls hP hS hl)
theorem aw_fmt (F : Fx X K cc "java/lang/String" ret d U tb) (hd : decode cc pc = .ok (.getstatic 1053, 3)) (k : ∀ o : Option Id4, AW X K (pc + 3) lv (.inr (.inl o) :: st) (M, Rf) u Q) : AW X K pc lv st (M, Rf) u Q := by
  obtain ⟨p, l, e, R, s, m, args, below, meth, c⟩ := X
  obtain ⟨g, cy, A, nL, ρ, L⟩ := K
  obtain ⟨hx, hb, hml, hown, hts, hK, hnd, hD, hA, hlk, hret, hR, htr, hZ, hE⟩ := F
  obtain ⟨z1, z2, z3, z4, z5, z6, z7, z8⟩ := hZ
  intro H locs ls hP hS hl
  rcases z7.2 with z | z
  · exact va_gets hx hb z hS hown (hts _ sl_fmt) (fun _ h => h) hd (k none H locs ls hP hS hl)
  · exact va_gets hx hb z hS hown (hts _ sl_fmt) (fun _ h => h) hd (k (some (22, 0, 0, 0)) H locs ls hP hS hl)
theorem aw_tcall0 {y : MethodName} {bc : ByteArray} {mL : Nat} {ry : Option FieldType} {d2 idx : Nat} {e9 : Int} {j : Nat} (F : Fx X K cc own ret d U tb) (hj : j < 3) (hd : decode cc pc = .ok (.invokevirtual idx, 3)) (hl9 : MLT own idx y bc mL ry 0) (hc : CtI d2 0 y bc mL ry [aR (20, (j : Int), 0, 0)] (M, Rf) (PU (M, Rf) e9)) (hst : stW st ≤ 8) (hdd : d2 + 1 ≤ d) (hu : u ≤ U) (k : AW X K (pc + 3) lv (aI e9 :: st) (M, Rf) u Q) : AW X K pc lv (aR (20, (j : Int), 0, 0) :: st) (M, Rf) u Q := by
  obtain ⟨p, l, e, R, s, m, args, below, meth, c⟩ := X
  obtain ⟨g, cy, A, nL, ρ, L⟩ := K
  obtain ⟨hx, hb, hml, hown, hts, hK, hnd, hD, hA, hlk, hret, hR, htr, hZ, hE⟩ := F
  subst hR
  obtain ⟨hE1, rfl⟩ := hE
  intro H locs ls hP hS hl
  have hcl := hl9.1
  obtain ⟨z1, z2, z3, z4, z5, z6, z7, z8⟩ := id hZ
  have hf9 : ∀ q, Aof ρ Lall H.size q → A q := fun q h => h.elim (fun ⟨i, hi, he⟩ => he ▸ wsA_D hD i hi) (fun h => hA q (Nat.le_trans hS.1 h))
  have hM := hc l g cy ρ H.size htr
  refine va_calli (va_runV (As := [].map (cv ρ)) (rest := st.map (cv ρ)) ⟨hx, hb, hml, hown, hts⟩ hM (hl9.cw hts hdd) ⟨WRs_blind, hcl ▸ vk_recv z6 (show j < 9 by omega) hS, fun V hV hW => ⟨rfl, WRs_call hK hD hA hZ hP hS hV hW⟩⟩ rfl rfl hl.1 rfl (lv_room (Nat.le_trans (st_cat st) hst)) hd ⟨hu, by show 64 * u + 64 * 0 ≤ 64 * U; omega⟩) hS (fun q _ h => hf9 q h) hf9 (fun v9 u9 t9 H1 locs1 ht hvm hw hB hz1 hk1 hS1 => ?_)
  obtain ⟨hw1, hw2, hw3⟩ := hw
  subst hw1
  have hP1 : va_P g vwCl (wsOf ρ cy Lall u9.2) H1 := by rw [← ht]; exact hB.1
  have k9 := k H1 locs1 ls (by rw [← hw3]; exact hP1) hS1 hl
  rw [← hw2] at k9
  exact k9
theorem aw_tcall1 {za : AV} {y : MethodName} {bc : ByteArray} {mL : Nat} {ry : Option FieldType} {d2 idx : Nat} {e9 : Int} {j : Nat} (F : Fx X K cc own ret d U tb) (hj : j < 3) (hd : decode cc pc = .ok (.invokevirtual idx, 3)) (hl9 : MLT own idx y bc mL ry 1) (hc : CtI d2 0 y bc mL ry [aR (20, (j : Int), 0, 0), za] (M, Rf) (PU (M, Rf) e9)) (hst : stW st ≤ 8) (hdd : d2 + 1 ≤ d) (hu : u ≤ U) (k : AW X K (pc + 3) lv (aI e9 :: st) (M, Rf) u Q) : AW X K pc lv (za :: aR (20, (j : Int), 0, 0) :: st) (M, Rf) u Q := by
  obtain ⟨p, l, e, R, s, m, args, below, meth, c⟩ := X
  obtain ⟨g, cy, A, nL, ρ, L⟩ := K
  obtain ⟨hx, hb, hml, hown, hts, hK, hnd, hD, hA, hlk, hret, hR, htr, hZ, hE⟩ := F
  subst hR
  obtain ⟨hE1, rfl⟩ := hE
  intro H locs ls hP hS hl
  have hcl := hl9.1
  obtain ⟨z1, z2, z3, z4, z5, z6, z7, z8⟩ := id hZ
  have hf9 : ∀ q, Aof ρ Lall H.size q → A q := fun q h => h.elim (fun ⟨i, hi, he⟩ => he ▸ wsA_D hD i hi) (fun h => hA q (Nat.le_trans hS.1 h))
  have hM := hc l g cy ρ H.size htr
  refine va_calli (va_runV (As := [za].map (cv ρ)) (rest := st.map (cv ρ)) ⟨hx, hb, hml, hown, hts⟩ hM (hl9.cw hts hdd) ⟨WRs_blind, hcl ▸ vk_recv z6 (show j < 9 by omega) hS, fun V hV hW => ⟨rfl, WRs_call hK hD hA hZ hP hS hV hW⟩⟩ rfl rfl hl.1 rfl (lv_room (Nat.le_trans (st_cat st) hst)) hd ⟨hu, by show 64 * u + 64 * 0 ≤ 64 * U; omega⟩) hS (fun q _ h => hf9 q h) hf9 (fun v9 u9 t9 H1 locs1 ht hvm hw hB hz1 hk1 hS1 => ?_)
  obtain ⟨hw1, hw2, hw3⟩ := hw
  subst hw1
  have hP1 : va_P g vwCl (wsOf ρ cy Lall u9.2) H1 := by rw [← ht]; exact hB.1
  have k9 := k H1 locs1 ls (by rw [← hw3]; exact hP1) hS1 hl
  rw [← hw2] at k9
  exact k9
end
theorem CtV.mkF {d U : Nat} {y : MethodName} {bc : ByteArray} {mL : Nat} {ret : Option FieldType} {args : List AV} {σ : Hp} {Q : Hp → Prop} (hy : plainFor y = true) (hw : narrowArgs args = true) (hn : args.length ≤ mL) (h : ∀ (X : Cx) (K : Kx), Fx X K bc y.cls ret d U false → K.2.2.2.1 = mL → AW X K 0 (args ++ List.replicate (mL - args.length) aX) [] σ 0 (EV X K U Q)) : CtV d U y bc mL ret args σ Q := by
  intro l g cy ρ sz htr
  refine va_MetF (cc := bc) (maxL := mL) (ret := ret) hy rfl ?_
  intro p e s m args' below meth c s₁ B hml hv
  obtain ⟨rfl, hsz, hP, hK, hD0, hZ⟩ := hv
  subst hsz
  have hts := atoms_spec (ws := Cond.code y bc mL ret :: Gw) B.pre
  have F : Fx (p, l, e, rmOf d U, s, m, (args.map (cv ρ)).toArray, below, meth, c) (g, cy, Aof ρ Lall s.heap.size, mL, ρ, Lall) bc y.cls ret d U false :=
    ⟨B.exec, B.bytes, hml, findClass_of_methodNamed B.named, fun w h => hts w (List.mem_cons_of_mem _ h), hK, Lall_nodup, Aof_D hD0, Aof_hA, B.notSynchronized, B.returns, rfl, htr, hZ, (fun z => by cases z), rfl⟩
  have k := h _ _ F rfl s.heap [] _ hP va_S.rf (lh_entry (ρ := ρ) hw hn)
  rw [lg_entry_eq]
  exact k
theorem nar_char {v : Int} (h : 97 ≤ v ∧ v ≤ 122) : narrow .char (.int (Int32.ofInt v)) = .int (Int32.ofInt v) := congrArg Value.int (oi_char (by omega) (by omega))
theorem ctJ_pcheck (M : Id4 → Int → Int) (Rf : Id4 → Int → Option Id4) (x y : Int) (o : Option Id4) (h : 0 ≤ x ∧ x < y) (h2 : y ≤ 1000) : CtI 1 0 yJ3_checkIndex_8e157 cJ3_checkIndex_8e157 3 (some .int) [aI x, aI y, .inr (.inl o)] (M, Rf) (PU (M, Rf) x) := by
  refine CtI.mkF (by decide +kernel) rfl (Nat.le_of_ble_eq_true rfl) (fun X K F hk => ?_)
  refine aw_iload0 (pc := 0) F dJ3_checkIndex_8e157_0 ?_
  refine aw_if_lt (tgt := 9) (pc := 1) F dJ3_checkIndex_8e157_1 (by decide) (by unfold inR; omega) (fun c1 => absurd c1 (by omega)) (fun c1 => ?_)
  refine aw_iload0 (pc := 4) F dJ3_checkIndex_8e157_4 ?_
  refine aw_iload1 (pc := 5) F dJ3_checkIndex_8e157_5 ?_
  refine aw_icmp_lt (tgt := 16) (pc := 6) F dJ3_checkIndex_8e157_6 (by decide) (by unfold inR; omega) (by unfold inR; omega) (fun c6 => ?_) (fun c6 => absurd c6 (by omega))
  refine aw_iload0 (pc := 16) F dJ3_checkIndex_8e157_16 ?_
  exact aw_iret (pc := 17) F dJ3_checkIndex_8e157_17 rfl (Nat.zero_le _) ⟨rfl, rfl⟩
theorem ctJ_check (M : Id4 → Int → Int) (Rf : Id4 → Int → Option Id4) (x y : Int) (h : 0 ≤ x ∧ x < y) (h2 : y ≤ 1000) : CtV 2 0 yJ0_checkIndex_df160 cJ0_checkIndex_df160 2 none [aI x, aI y] (M, Rf) (fun σ' => σ' = (M, Rf)) := by
  refine CtV.mkF (by decide +kernel) rfl (Nat.le_of_ble_eq_true rfl) (fun X K F hk => ?_)
  refine aw_iload0 (pc := 0) F dJ0_checkIndex_df160_0 ?_
  refine aw_iload1 (pc := 1) F dJ0_checkIndex_df160_1 ?_
  refine aw_fmt (pc := 2) F dJ0_checkIndex_df160_2 (fun o => ?_)
  refine aw_pcallS3 (pc := 5) F dJ0_checkIndex_df160_5 sm_pcheck (ctJ_pcheck M Rf x y o h h2) (Nat.le_of_ble_eq_true rfl) (by decide) (Nat.zero_le _) ?_
  refine aw_popI (pc := 8) F dJ0_checkIndex_df160_8 ?_
  exact aw_vret (pc := 9) F dJ0_checkIndex_df160_9 (Nat.zero_le _) rfl
theorem ctJ_coder (M : Id4 → Int → Int) (Rf : Id4 → Int → Option Id4) (j : Nat) (hj : j < 3) : CtI 1 0 yJ0_coder_7d493 cJ0_coder_7d493 1 (some .byte) [aR (20, (j : Int), 0, 0)] (M, Rf) (PU (M, Rf) 0) := by
  refine CtI.mkF (by decide +kernel) rfl (Nat.le_of_ble_eq_true rfl) (fun X K F hk => ?_)
  refine aw_comp (pc := 0) F dJ0_coder_7d493_0 ?_
  refine aw_if_eq (tgt := 13) (pc := 3) F dJ0_coder_7d493_3 (by decide) (by unfold inR; decide) (fun c => absurd c (by decide)) (fun _ => ?_)
  refine aw_aload0 (pc := 6) F dJ0_coder_7d493_6 ?_
  refine aw_scod (pc := 7) F hj dJ0_coder_7d493_7 ?_
  refine aw_goto (tgt := 14) (pc := 10) F dJ0_coder_7d493_10 (by decide) ?_
  exact aw_iret (pc := 14) F dJ0_coder_7d493_14 (by decide) (Nat.zero_le _) ⟨rfl, rfl⟩
theorem ctJ_isLatin1 (M : Id4 → Int → Int) (Rf : Id4 → Int → Option Id4) (j : Nat) (hj : j < 3) : CtI 1 0 yJ0_isLatin1_aae02 cJ0_isLatin1_aae02 1 (some .boolean) [aR (20, (j : Int), 0, 0)] (M, Rf) (PU (M, Rf) 1) := by
  refine CtI.mkF (by decide +kernel) rfl (Nat.le_of_ble_eq_true rfl) (fun X K F hk => ?_)
  refine aw_comp (pc := 0) F dJ0_isLatin1_aae02_0 ?_
  refine aw_if_eq (tgt := 17) (pc := 3) F dJ0_isLatin1_aae02_3 (by decide) (by unfold inR; decide) (fun c => absurd c (by decide)) (fun _ => ?_)
  refine aw_aload0 (pc := 6) F dJ0_isLatin1_aae02_6 ?_
  refine aw_scod (pc := 7) F hj dJ0_isLatin1_aae02_7 ?_
  refine aw_if_ne (tgt := 17) (pc := 10) F dJ0_isLatin1_aae02_10 (by decide) (by unfold inR; decide) (fun c => absurd rfl c) (fun _ => ?_)
  refine aw_iconst (pc := 13) F dJ0_isLatin1_aae02_13 ?_
  refine aw_goto (tgt := 18) (pc := 14) F dJ0_isLatin1_aae02_14 (by decide) ?_
  exact aw_iret (pc := 18) F dJ0_isLatin1_aae02_18 (by decide) (Nat.zero_le _) ⟨rfl, rfl⟩
theorem wLen_I : ∀ j : Nat, j < 3 → ((wLen.getD j 0 : Nat) : Int) = wLenI j ∧ wLen.getD j 0 ≤ 6 := by decide
theorem ctJ_length (M : Id4 → Int → Int) (Rf : Id4 → Int → Option Id4) (j : Nat) (hj : j < 3) : CtI 2 0 yJ0_length_8abf5 cJ0_length_8abf5 1 (some .int) [aR (20, (j : Int), 0, 0)] (M, Rf) (PU (M, Rf) (wLenI j)) := by
  refine CtI.mkF (by decide +kernel) rfl (Nat.le_of_ble_eq_true rfl) (fun X K F hk => ?_)
  refine aw_aload0 (pc := 0) F dJ0_length_8abf5_0 ?_
  refine aw_sget (pc := 1) F hj dJ0_length_8abf5_1 ?_
  refine aw_tlen (pc := 4) F hj (wLen_I j hj).1 dJ0_length_8abf5_4 ?_
  refine aw_aload0 (pc := 5) F dJ0_length_8abf5_5 ?_
  refine aw_tcall0 (pc := 6) F hj dJ0_length_8abf5_6 sm_coder (ctJ_coder M Rf j hj) (Nat.le_of_ble_eq_true rfl) (by decide) (Nat.zero_le _) ?_
  refine aw_ishr (pc := 9) F dJ0_length_8abf5_9 ?_
  exact aw_iret (pc := 10) F dJ0_length_8abf5_10 rfl (Nat.zero_le _) ⟨by revert j; decide, rfl⟩
theorem wByt_I : ∀ j : Nat, j < 3 → ∀ i : Nat, i < wLen.getD j 0 → Int32.ofInt (wBytI j i) = (wByt.getD j []).getD i 0 ∧ (97 ≤ wBytI j i ∧ wBytI j i ≤ 122) ∧ bAnd (wBytI j i) 255 = wBytI j i := by decide
theorem ctJ_charAt1 (M : Id4 → Int → Int) (Rf : Id4 → Int → Option Id4) (j i : Nat) (hj : j < 3) (hi : i < wLen.getD j 0) : CtI 3 0 yJ1_charAt_3b067 cJ1_charAt_3b067 2 (some .char) [aR (21, (j : Int), 0, 0), aI i] (M, Rf) (PU (M, Rf) (wBytI j i)) := by
  refine CtI.mkF (by decide +kernel) rfl (Nat.le_of_ble_eq_true rfl) (fun X K F hk => ?_)
  have hl := wLen_I j hj
  have hb := wByt_I j hj i hi
  refine aw_iload1 (pc := 0) F dJ1_charAt_3b067_0 ?_
  refine aw_aload0 (pc := 1) F dJ1_charAt_3b067_1 ?_
  refine aw_tlen (pc := 2) F hj hl.1 dJ1_charAt_3b067_2 ?_
  refine aw_callSV2 (pc := 3) F dJ1_charAt_3b067_3 sm_check (ctJ_check M Rf i (wLenI j) (by omega) (by omega)) (Nat.le_of_ble_eq_true rfl) (by decide) (Nat.zero_le _) (fun σ9 h9 => ?_)
  subst h9
  refine aw_aload0 (pc := 6) F dJ1_charAt_3b067_6 ?_
  refine aw_iload1 (pc := 7) F dJ1_charAt_3b067_7 ?_
  refine aw_tbald (pc := 8) F hj hi (by omega) rfl hb.1 dJ1_charAt_3b067_8 ?_
  refine aw_sipush (pc := 9) F dJ1_charAt_3b067_9 (by decide) ?_
  refine aw_iand (pc := 12) F dJ1_charAt_3b067_12 ?_
  rw [hb.2.2]
  refine aw_i2c (pc := 13) F dJ1_charAt_3b067_13 (by omega) (by omega) ?_
  exact aw_iret (pc := 14) F dJ1_charAt_3b067_14 (nar_char (by omega)) (Nat.zero_le _) ⟨rfl, rfl⟩
theorem ctJ_charAt (M : Id4 → Int → Int) (Rf : Id4 → Int → Option Id4) (j i : Nat) (hj : j < 3) (hi : i < wLen.getD j 0) : CtI 4 0 yJ0_charAt_5068e cJ0_charAt_5068e 2 (some .char) [aR (20, (j : Int), 0, 0), aI i] (M, Rf) (PU (M, Rf) (wBytI j i)) := by
  refine CtI.mkF (by decide +kernel) rfl (Nat.le_of_ble_eq_true rfl) (fun X K F hk => ?_)
  have hb := wByt_I j hj i hi
  refine aw_aload0 (pc := 0) F dJ0_charAt_5068e_0 ?_
  refine aw_tcall0 (pc := 1) F hj dJ0_charAt_5068e_1 sm_isLatin1 (ctJ_isLatin1 M Rf j hj) (Nat.le_of_ble_eq_true rfl) (by decide) (Nat.zero_le _) ?_
  refine aw_if_eq (tgt := 16) (pc := 4) F dJ0_charAt_5068e_4 (by decide) (by unfold inR; decide) (fun c => absurd c (by decide)) (fun _ => ?_)
  refine aw_aload0 (pc := 7) F dJ0_charAt_5068e_7 ?_
  refine aw_sget (pc := 8) F hj dJ0_charAt_5068e_8 ?_
  refine aw_iload1 (pc := 11) F dJ0_charAt_5068e_11 ?_
  refine aw_pcallS2 (pc := 12) F dJ0_charAt_5068e_12 sm_charAt1 (ctJ_charAt1 M Rf j i hj hi) (Nat.le_of_ble_eq_true rfl) (by decide) (Nat.zero_le _) ?_
  exact aw_iret (pc := 15) F dJ0_charAt_5068e_15 (nar_char (by omega)) (Nat.zero_le _) ⟨rfl, rfl⟩
