/-! 9j: the law's frame -/
theorem room_less {s : State} {pl : Platform} {R R' : Room} (h1 : R'.frames ≤ R.frames) (h2 : R'.cells ≤ R.cells) (h3 : R'.slots ≤ R.slots) (h4 : R'.locals ≤ R.locals) (h : s.hasRoom pl R = true) : s.hasRoom pl R' = true := by
  unfold State.hasRoom at h ⊢
  simp only [Bool.and_eq_true, decide_eq_true_eq] at h ⊢
  obtain ⟨⟨⟨⟨a, b⟩, c⟩, d⟩, e⟩ := h
  exact ⟨⟨⟨⟨by omega, by omega, by omega, by omega, by omega, b.2.2.2.2⟩, by omega⟩, by omega⟩, e⟩
theorem W_less {p : Program} {l : Launch} {e : Env} {R R' : Room} {s : State} {m : MethodId} {args : Array Value} {below : List Frame} {meth : Method} {c : Code} {H : Heap} {locs : List Loc} {cells slots : Nat} {Q : State → Prop} {g : JFrame} (h1 : R'.frames ≤ R.frames) (h2 : R'.cells ≤ R.cells) (h3 : R'.slots ≤ R.slots) (h4 : R'.locals ≤ R.locals) (k : W p l e R' s m args below meth c H locs cells slots Q g) : W p l e R s m args below meth c H locs cells slots Q g := fun T hT X => k T hT { X with room := room_less h1 h2 h3 h4 X.room }
/-- the script -/
abbrev qS : Id4 := (30, 0, 0, 0)
def LX (X : Cx) (K : Kx) (Ln : Nat) (xs : Nat → Int32) : Prop := match X, K with
  | (_, _, _, _, s, _, _, _, _, _), (_, _, A, _, ρ, _) => va_X (ρ qS) Ln xs s s.heap ∧ ρ qS < s.heap.size ∧ ¬ A (ρ qS)
def sI (xs : Nat → Int32) (i : Int) : Int := (xs i.toNat).toInt
theorem sI_in {xs : Nat → Int32} {i : Int} : inR (sI xs i) := inR_toInt _
def INV (M : Id4 → Int → Int) : Prop := ∃ st : ST, I8 M st ∧ I9 M st ∧ PUs st
section LROWS
variable {M : Id4 → Int → Int} {Rf : Id4 → Int → Option Id4} {X : Cx} {K : Kx} {cc bc : ByteArray} {own : String} {ret ry : Option FieldType} {d U d2 U2 pc u mL idx t : Nat} {lv st : List AV} {σ : Hp} {tb : Bool} {y : MethodName} {q : Id4} {Q : State → Prop}
theorem aw_slen {Ln : Nat} {xs : Nat → Int32} (F : Fx X K cc own ret d U tb) (hX : LX X K Ln xs) (hd : decode cc pc = .ok (.arraylength, 1)) (k : AW X K (pc + 1) lv (aI Ln :: st) σ u Q) : AW X K pc lv (aR qS :: st) σ u Q := by
  obtain ⟨p, l, e, R, s, m, args, below, meth, c⟩ := X
  obtain ⟨g, cy, A, nL, ρ, L⟩ := K
  obtain ⟨hx, hb, hml, hown, hts, hK, hnd, hD, hA, hlk, hret, hR, htr, hZ, hE⟩ := F
  obtain ⟨hE1, rfl⟩ := hE
  obtain ⟨x1, x2, x3⟩ := hX
  intro H locs ls hP hS hl
  exact va_slen hx hb x1 x2 x3 hS hd (k H locs ls hP hS hl)
theorem aw_sld {Ln : Nat} {xs : Nat → Int32} {i : Int} (F : Fx X K cc own ret d U tb) (hX : LX X K Ln xs) (hd : decode cc pc = .ok (.iaload, 1)) (hi : 0 ≤ i ∧ i < Ln) (hn : Ln ≤ 3072) (k : AW X K (pc + 1) lv (aI (sI xs i) :: st) σ u Q) : AW X K pc lv (aI i :: aR qS :: st) σ u Q := by
  obtain ⟨p, l, e, R, s, m, args, below, meth, c⟩ := X
  obtain ⟨g, cy, A, nL, ρ, L⟩ := K
  obtain ⟨hx, hb, hml, hown, hts, hK, hnd, hD, hA, hlk, hret, hR, htr, hZ, hE⟩ := F
  obtain ⟨hE1, rfl⟩ := hE
  obtain ⟨x1, x2, x3⟩ := hX
  intro H locs ls hP hS hl
  have kk := k H locs ls hP hS hl
  have e9 : cv ρ (aI (sI xs i)) = .int (xs (Int32.ofInt i).toNatClampNeg) := by
    rw [oi_nat hi.1 (by omega)]
    show Value.int (Int32.ofInt (xs i.toNat).toInt) = _
    rw [Int32.ofInt_toInt]
  rw [List.map_cons, e9] at kk
  exact va_sld hx hb x1 x2 x3 hS (oi_in hi.1 hi.2 hn) hd kk
theorem aw_icmp_same {x off : Int} {tgt : Nat} (F : Fx X K cc own ret d U tb) (hd : decode cc pc = .ok (.if_icmp .eq off, 3)) (ht : (pc : Int) + off = (tgt : Int)) (k : AW X K tgt lv st σ u Q) : AW X K pc lv (aI x :: aI x :: st) σ u Q := by
  obtain ⟨p, l, e, R, s, m, args, below, meth, c⟩ := X
  obtain ⟨g, cy, A, nL, ρ, L⟩ := K
  obtain ⟨hx, hb, hml, hown, hts, hK, hnd, hD, hA, hlk, hret, hR, htr, hZ, hE⟩ := F
  obtain ⟨hE1, rfl⟩ := hE
  intro H locs ls hP hS hl
  exact lv_icmp_eq hx hb hd ht (fun _ => k H locs ls hP hS hl) (fun h => absurd rfl h)
theorem aw_forget {lv' : List AV} (hlen : lv'.length = lv.length) (h : ∀ (i : Nat) (v : AV), lv'[i]? = some v → isX v = false → lv[i]? = some v) (k : AW X K pc lv' st σ u Q) : AW X K pc lv st σ u Q := by
  obtain ⟨p, l, e, R, s, m, args, below, meth, c⟩ := X
  obtain ⟨g, cy, A, nL, ρ, L⟩ := K
  intro H locs ls hP hS hl
  exact k H locs ls hP hS ⟨hl.1, hl.2.1, fun i v hi hv => hl.2.2 i v (h i v hi hv) hv⟩
theorem aw_f2d {x : UInt32} (F : Fx X K cc own ret d U tb) (hv : Jvm.FP.Core.val32 x ≠ .nan) (hd : decode cc pc = .ok (.f2d, 1)) (k : AW X K (pc + 1) lv (aD (FP.f2d x) :: st) σ u Q) : AW X K pc lv (aF x :: st) σ u Q := by
  obtain ⟨p, l, e, R, s, m, args, below, meth, c⟩ := X
  obtain ⟨g, cy, A, nL, ρ, L⟩ := K
  obtain ⟨hx, hb, hml, hown, hts, hK, hnd, hD, hA, hlk, hret, hR, htr, hZ, hE⟩ := F
  obtain ⟨hE1, rfl⟩ := hE
  intro H locs ls hP hS hl
  exact lv_f2d hx hb hd (nn64 (f2d_val hv)) (k H locs ls hP hS hl)
theorem aw_dstore {x : UInt64} {i : Nat} (F : Fx X K cc own ret d U tb) (hd : decode cc pc = .ok (.dstore i, 2)) (hi : i + 1 < lv.length) (hp : ∀ v, lv[i - 1]? = some v → wide v = false) (hlen : lv.length = K.2.2.2.1) (k : AW X K (pc + 2) ((lv.set i (aD x)).set (i + 1) aX) st σ u Q) : AW X K pc lv (aD x :: st) σ u Q := by
  obtain ⟨p, l, e, R, s, m, args, below, meth, c⟩ := X
  obtain ⟨g, cy, A, nL, ρ, L⟩ := K
  obtain ⟨hx, hb, hml, hown, hts, hK, hnd, hD, hA, hlk, hret, hR, htr, hZ, hE⟩ := F
  obtain ⟨hE1, rfl⟩ := hE
  intro H locs ls hP hS hl
  have hn9 : lv.length = nL := hlen
  refine lv_dstore (i := i) hx hb hd (lh_as hl) (by omega) rfl (fun ls' h' => k H locs ls' hP hS ⟨h'.1, h'.2.1, fun j w hj hw => ?_⟩)
  by_cases j1 : j = i + 1
  · subst j1
    rw [List.getElem?_set_self (by rw [List.length_set]; exact hi)] at hj
    cases hj
    cases hw
  · rw [List.getElem?_set_ne (Ne.symm j1)] at hj
    by_cases j0 : j = i
    · subst j0
      rw [List.getElem?_set_self (by omega)] at hj
      cases hj
      exact h'.2.2 _ List.mem_cons_self
    · rw [List.getElem?_set_ne (Ne.symm j0)] at hj
      refine h'.2.2 (j, cv ρ w) (List.mem_cons.mpr (Or.inr (List.mem_filter.mpr ⟨(asL_mem lv 0 _).mpr ⟨j, w, hj, hw, by rw [Nat.zero_add]⟩, ?_⟩)))
      by_cases j2 : j + 1 = i
      · have hwd := hp w (by rw [← j2]; exact hj)
        simp [j0, j1, cv_cat (ρ := ρ) hwd]
      · simp [j0, j1, j2]
theorem aw_dload {x : UInt64} {i : Nat} (F : Fx X K cc own ret d U tb) (hd : decode cc pc = .ok (.dload i, 2)) (hv : lv[i]? = some (aD x)) (k : AW X K (pc + 2) lv (aD x :: st) σ u Q) : AW X K pc lv st σ u Q := by
  obtain ⟨p, l, e, R, s, m, args, below, meth, c⟩ := X
  obtain ⟨g, cy, A, nL, ρ, L⟩ := K
  obtain ⟨hx, hb, hml, hown, hts, hK, hnd, hD, hA, hlk, hret, hR, htr, hZ, hE⟩ := F
  obtain ⟨hE1, rfl⟩ := hE
  intro H locs ls hP hS hl
  exact lv_dload hx hb hd (hl.2.2 i (aD x) hv rfl) (k H locs ls hP hS hl)
theorem aw_dcmp {x : UInt64} {op : CmpOp} (F : Fx X K cc own ret d U tb) (hd : decode cc pc = .ok (.dcmp op, 1)) (hv : FP.dcmp x x = some .eq) (k : AW X K (pc + 1) lv (aI 0 :: st) σ u Q) : AW X K pc lv (aD x :: aD x :: st) σ u Q := by
  obtain ⟨p, l, e, R, s, m, args, below, meth, c⟩ := X
  obtain ⟨g, cy, A, nL, ρ, L⟩ := K
  obtain ⟨hx, hb, hml, hown, hts, hK, hnd, hD, hA, hlk, hret, hR, htr, hZ, hE⟩ := F
  obtain ⟨hE1, rfl⟩ := hE
  intro H locs ls hP hS hl
  refine lv_dcmp hx hb hd ?_
  rw [hv]
  cases op <;> exact k H locs ls hP hS hl
theorem aw_gcallVI {as9 : List AV} {Q2 : Int → Hp → Prop} (F : Fx X K cc own ret d U tb) (hd : decode cc pc = .ok (.invokevirtual idx, 3)) (hl9 : MLV own idx y bc mL ry t as9.length) (hk : kd q = .inl t) (hm : inB q) (hc : CtI d2 0 y bc mL ry (aR q :: as9) σ Q2) (hst : stW st ≤ 8) (hdd : d2 + 1 ≤ d) (hu : u ≤ U) (k : ∀ (v : Int) (σ' : Hp), Q2 v σ' → AW X K (pc + 3) lv (aI v :: st) σ' u Q) : AW X K pc lv (as9.reverse ++ aR q :: st) σ u Q := by
  obtain ⟨p, l, e, R, s, m, args, below, meth, c⟩ := X
  obtain ⟨g, cy, A, nL, ρ, L⟩ := K
  obtain ⟨hx, hb, hml, hown, hts, hK, hnd, hD, hA, hlk, hret, hR, htr, hZ, hE⟩ := F
  subst hR
  obtain ⟨hE1, rfl⟩ := hE
  intro H locs ls hP hS hl
  obtain ⟨⟨rr, hr1, hr2⟩, -⟩ := id hl9
  obtain ⟨i, hi, hi2⟩ := ws_at (ρ := ρ) (cy := cy) (σ := σ) (memL (by rw [hk]; intro z; cases z; exact absurd (vw_lt hr1) (by decide)) hm)
  rw [ent_obj hk] at hi2
  have hf9 : ∀ q, Aof ρ Lall H.size q → A q := fun q h => h.elim (fun ⟨i, hi, he⟩ => he ▸ wsA_D hD i hi) (fun h => hA q (Nat.le_trans hS.1 h))
  have hM := hc l g cy ρ H.size htr
  refine va_calli (va_runV (As := as9.map (cv ρ)) (rest := st.map (cv ρ)) ⟨hx, hb, hml, hown, hts⟩ hM (hl9.cw hts hdd) ⟨WRs_blind, hr2 ▸ va_recv hK hP hr1 hi2, fun V hV hW => ⟨rfl, WRs_call hK hD hA hZ hP hS hV hW⟩⟩ rfl (List.length_map _) hl.1 (by show (as9.reverse ++ aR q :: st).map (cv ρ) = _; rw [List.map_append, List.map_reverse]; rfl) (lv_room (Nat.le_trans (st_cat st) hst)) hd ⟨hu, by show 64 * u + 64 * 0 ≤ 64 * U; omega⟩) hS (fun q _ h => hf9 q h) hf9 (fun v9 u9 t9 H1 locs1 ht hvm hw hB hz1 hk1 hS1 => ?_)
  obtain ⟨hw1, hw2⟩ := hw
  subst hw1
  have hP1 : va_P g vwCl (wsOf ρ cy Lall u9.2) H1 := by rw [← ht]; exact hB.1
  exact k u9.1 u9.2 hw2 H1 locs1 ls hP1 hS1 hl
theorem aw_hcallS {hh : List (Nat × Nat × Nat × Nat)} {as9 : List AV} {Q2 : Int → Hp → Prop} (F : Fx X K cc own ret d U tb) (hd : decode cc pc = .ok (.invokestatic idx, 3)) (hl9 : MLH own idx y bc mL ry hh as9.length) (hc : CtH d2 U2 y bc mL ry hh as9 σ Q2) (hst : stW st ≤ 8) (hdd : d2 + 1 ≤ d) (hu : u + U2 ≤ U) (k : ∀ (v : Int) (σ' : Hp), Q2 v σ' → AW X K (pc + 3) lv (aI v :: st) σ' (u + U2) Q) : AW X K pc lv (as9.reverse ++ st) σ u Q := by
  obtain ⟨p, l, e, R, s, m, args, below, meth, c⟩ := X
  obtain ⟨g, cy, A, nL, ρ, L⟩ := K
  obtain ⟨hx, hb, hml, hown, hts, hK, hnd, hD, hA, hlk, hret, hR, htr, hZ, hE⟩ := F
  subst hR
  obtain ⟨hE1, rfl⟩ := hE
  intro H locs ls hP hS hl
  obtain ⟨h2, h3, h4, h5, h6, h7⟩ := hl9
  have hf9 : ∀ q, Aof ρ Lall H.size q → A q := fun q h => h.elim (fun ⟨i, hi, he⟩ => he ▸ wsA_D hD i hi) (fun h => hA q (Nat.le_trans hS.1 h))
  have hM := hc l g cy ρ H.size htr
  have hcw : vx_CSW (rmOf d U) s args own idx y bc mL ry hh (Cond.codeWith y bc mL ry hh :: Gw) (rmOf d2 U2) U2 (64 * U2) as9.length := by
    refine vx_cwSW as9.length hts (gwIn (fun w hw => ?_)) rfl rfl rfl h2 ⟨hdd, by show 8 + (mL + 11) + 80 * d2 ≤ 80 * d; omega⟩
    unfold va_wsS at hw
    rcases List.mem_append.mp hw with hw | hw
    · simp only [List.mem_cons, List.not_mem_nil, or_false] at hw
      rcases hw with rfl | rfl | rfl <;> assumption
    · rcases List.mem_cons.mp hw with rfl | hw
      · exact h7
      · exact hw
  refine va_calli (vx_runSW (As := as9.map (cv ρ)) (rest := st.map (cv ρ)) ⟨hx, hb, hml, hown, hts⟩ hM hcw ⟨WRs_blind, fun V hV hW => ⟨rfl, WRs_call hK hD hA hZ hP hS hV hW⟩⟩ rfl (List.length_map _) hl.1 (by show (as9.reverse ++ st).map (cv ρ) = _; rw [List.map_append, List.map_reverse]) (lv_room (Nat.le_trans (st_cat st) hst)) hd ⟨hu, by show 64 * u + 64 * U2 ≤ 64 * U; omega⟩) hS (fun q _ h => hf9 q h) hf9 (fun v9 u9 t9 H1 locs1 ht hvm hw hB hz1 hk1 hS1 => ?_)
  obtain ⟨hw1, hw2⟩ := hw
  subst hw1
  have hP1 : va_P g vwCl (wsOf ρ cy Lall u9.2) H1 := by rw [← ht]; exact hB.1
  rw [show 64 * u + 64 * U2 = 64 * (u + U2) by omega]
  exact k u9.1 u9.2 hw2 H1 locs1 ls hP1 hS1 hl
end LROWS
