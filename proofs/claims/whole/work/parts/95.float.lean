/-! 95: floats: a mean of whole numbers is a number; contracts that answer a float -/
section
theorem nn32 {x : UInt32} (h : Jvm.FP.Core.val32 x ≠ .nan) : vf_n32 x := by
  unfold vf_n32
  rw [UInt32.le_iff_toNat_le, UInt32.toNat_and]
  show x.toNat &&& (2 ^ 31 - 1) ≤ 2139095040
  rw [Nat.and_two_pow_sub_one_eq_mod]
  refine Nat.le_of_not_lt (fun hc => h ?_)
  have hx := x.toNat_lt
  unfold Jvm.FP.Core.val32 Jvm.FP.Core.decode
  have e1 : Jvm.FP.Core.fieldE Jvm.FP.Core.b32 x.toNat = Jvm.FP.Core.b32.exps - 1 := by
    show x.toNat / 8388608 % 256 = 255
    omega
  have e2 : Jvm.FP.Core.fieldT Jvm.FP.Core.b32 x.toNat ≠ 0 := by
    show x.toNat % 8388608 ≠ 0
    omega
  rw [if_pos e1, if_neg e2]
theorem nn64 {x : UInt64} (h : Jvm.FP.Core.val64 x ≠ .nan) : vf_n64 x := by
  unfold vf_n64
  rw [UInt64.le_iff_toNat_le, UInt64.toNat_and]
  show x.toNat &&& (2 ^ 63 - 1) ≤ 9218868437227405312
  rw [Nat.and_two_pow_sub_one_eq_mod]
  refine Nat.le_of_not_lt (fun hc => h ?_)
  have hx := x.toNat_lt
  unfold Jvm.FP.Core.val64 Jvm.FP.Core.decode
  have e1 : Jvm.FP.Core.fieldE Jvm.FP.Core.b64 x.toNat = Jvm.FP.Core.b64.exps - 1 := by
    show x.toNat / 4503599627370496 % 2048 = 2047
    omega
  have e2 : Jvm.FP.Core.fieldT Jvm.FP.Core.b64 x.toNat ≠ 0 := by
    show x.toNat % 4503599627370496 ≠ 0
    omega
  rw [if_pos e1, if_neg e2]
/-- a mean -/
def meanF (a n : Int) : UInt32 := FP.fdiv (FP.i2f (Int32.ofInt a)) (FP.i2f (Int32.ofInt n))
theorem rr_fin {f : Jvm.FP.Core.Fmt} {s : Bool} {A B : Nat} {e : Int} : Jvm.FP.Core.roundRatio f s A B e ≠ .nan := by
  unfold Jvm.FP.Core.roundRatio
  split
  · intro z; cases z
  · unfold Jvm.FP.Core.roundAt Jvm.FP.Core.settle
    split <;> unfold Jvm.FP.Core.bound <;> split <;> intro z <;> cases z
theorem wh_fin {i : Int} {d : Jvm.FP.Core.Datum} (h : Jvm.FP.Core.Whole i d) : ∃ s c q, d = .fin s c q ∧ (c = 0 ↔ i = 0) := by
  cases d with
  | nan => exact h.elim
  | inf => exact h.elim
  | fin s c q => exact ⟨s, c, q, rfl, Jvm.FP.Core.whole_zero h⟩
theorem i2f_wh {a : Int} (h : -16777216 ≤ a ∧ a ≤ 16777216) : Jvm.FP.Core.Whole a (Jvm.FP.Core.val32 (FP.i2f (Int32.ofInt a))) := by
  show Jvm.FP.Core.Whole a (Jvm.FP.Core.val32 (Jvm.FP.Core.i2f (Int32.ofInt a)))
  rw [Jvm.FP.Core.val32_i2f, oi_inR (by unfold inR; omega)]
  exact Jvm.FP.Core.whole_round Jvm.FP.Core.good_b32 Jvm.FP.Core.wide_b32 (show a.natAbs ≤ 16777216 by omega) (Jvm.FP.Core.whole_ofInt _)
theorem mean_val {a n : Int} (h : -16777216 ≤ a ∧ a ≤ 16777216) (hn : 0 < n ∧ n ≤ 16777216) : Jvm.FP.Core.val32 (meanF a n) ≠ .nan := by
  obtain ⟨s, c, q, e1, -⟩ := wh_fin (i2f_wh h)
  obtain ⟨s2, c2, q2, e2, e3⟩ := wh_fin (i2f_wh (a := n) (by omega))
  show Jvm.FP.Core.val32 (Jvm.FP.Core.fdiv (FP.i2f (Int32.ofInt a)) (FP.i2f (Int32.ofInt n))) ≠ _
  rw [Jvm.FP.Core.val32_fdiv, e1, e2]
  unfold Jvm.FP.Core.quotient
  dsimp only
  rw [if_neg (fun z => by have := e3.mp z; omega)]
  exact rr_fin
theorem f2d_val {x : UInt32} (h : Jvm.FP.Core.val32 x ≠ .nan) : Jvm.FP.Core.val64 (FP.f2d x) ≠ .nan := by
  have e : FP.f2d x = Jvm.FP.Core.f2d x := by
    unfold FP.f2d
    rw [if_neg]
    intro z
    exact h (of_decide_eq_true z)
  rw [e, Jvm.FP.Core.val64_f2d]
  cases hx : Jvm.FP.Core.val32 x with
  | nan => exact absurd hx h
  | inf s => intro z; cases z
  | fin s c q => exact rr_fin
theorem dcmp_id {x : UInt64} (h : Jvm.FP.Core.val64 x ≠ .nan) : FP.dcmp x x = some .eq := Jvm.FP.Core.dcmp_self h
end
def QF (g : va_G) (cy : Nat → ClassId) (ρ : Id4 → Nat) (A : Nat → Prop) (Q : UInt32 → Hp → Prop) : Array Value → State → Outcome → State → Prop := va_Qf (fun (r : UInt32) (u : UInt32 × Hp) => r = u.1 ∧ Q u.1 u.2) (fun u t => WB g cy ρ Lall u.2 t) A
def CtF (d U : Nat) (y : MethodName) (bc : ByteArray) (mL : Nat) (ret : Option FieldType) (args : List AV) (σ : Hp) (Q : UInt32 → Hp → Prop) : Prop :=
  ∀ (l : Launch) (g : va_G) (cy : Nat → ClassId) (ρ : Id4 → Nat) (sz : Nat), l.stackTraces = false → Met l y (Cond.code y bc mL ret :: Gw) (rmOf d U) (PC g cy ρ σ sz args) (QF g cy ρ (Aof ρ Lall sz) Q) U (64 * U) (Aof ρ Lall sz)
def EF (X : Cx) (K : Kx) (U : Nat) (Q : UInt32 → Hp → Prop) : State → Prop := match X, K with
  | (_, _, _, _, s, _, args, below, _, _), (g, cy, A, _, ρ, _) => MQ below (QF g cy ρ A Q) args s U (64 * U) A
theorem CtF.mk {d U : Nat} {y : MethodName} {bc : ByteArray} {mL : Nat} {ret : Option FieldType} {args : List AV} {σ : Hp} {Q : UInt32 → Hp → Prop} (hy : plainName y.cls = true) (hw : narrowArgs args = true) (hn : args.length ≤ mL) (h : ∀ (X : Cx) (K : Kx), Fx X K bc y.cls ret d U false → K.2.2.2.1 = mL → AW X K 0 (args ++ List.replicate (mL - args.length) aX) [] σ 0 (EF X K U Q)) : CtF d U y bc mL ret args σ Q := by
  intro l g cy ρ sz htr
  refine Met.ofW (cc := bc) (maxL := mL) (ret := ret) hy rfl ?_
  intro p e s m args' below meth c s₁ B hml hv
  obtain ⟨rfl, hsz, hP, hK, hD0, hZ⟩ := hv
  subst hsz
  have hts := atoms_spec (ws := Cond.code y bc mL ret :: Gw) B.pre
  have F : Fx (p, l, e, rmOf d U, s, m, (args.map (cv ρ)).toArray, below, meth, c) (g, cy, Aof ρ Lall s.heap.size, mL, ρ, Lall) bc y.cls ret d U false :=
    ⟨B.exec, B.bytes, hml, findClass_of_methodNamed B.named, fun w h => hts w (List.mem_cons_of_mem _ h), hK, Lall_nodup, Aof_D hD0, Aof_hA, B.notSynchronized, B.returns, rfl, htr, hZ, (fun z => by cases z), rfl⟩
  have k := h _ _ F rfl s.heap [] _ hP va_S.rf (lh_entry (ρ := ρ) hw hn)
  rw [lg_entry_eq]
  exact k

section FRET
variable {X : Cx} {K : Kx} {cc : ByteArray} {own : String} {ret : Option FieldType} {d U pc u : Nat} {lv st : List AV} {σ : Hp} {tb : Bool}
theorem aw_fret {Q : UInt32 → Hp → Prop} {v : UInt32} (F : Fx X K cc own (some .float) d U tb) (hd : decode cc pc = .ok (.freturn, 1)) (hu : u ≤ U) (hq : Q v σ) : AW X K pc lv [aF v] σ u (EF X K U Q) := by
  obtain ⟨p, l, e, R, s, m, args, below, meth, c⟩ := X
  obtain ⟨g, cy, A, nL, ρ, L⟩ := K
  obtain ⟨hx, hb, hml, hown, hts, hK, hnd, hD, hA, hlk, hret, hR, htr, hZ, hE⟩ := F
  subst hR
  obtain ⟨hE1, rfl⟩ := hE
  intro H locs ls hP hS hl
  refine W.widen hu (Nat.mul_le_mul_left 64 hu) ?_
  exact W.fret hx hb hret (fun t ht hW => ⟨⟨v, (v, σ), rfl, ⟨rfl, hq⟩, by rw [ht]; exact hP, va_K.moved hW.alike hK⟩, hS.F ht⟩) hS.2.2 hd hlk
end FRET
section FROW
variable {M : Id4 → Int → Int} {Rf : Id4 → Int → Option Id4} {X : Cx} {K : Kx} {cc bc : ByteArray} {own : String} {ret ry : Option FieldType} {d U d2 U2 pc u mL idx t : Nat} {lv st : List AV} {σ : Hp} {tb : Bool} {y : MethodName} {q : Id4} {Q : State → Prop}
theorem aw_fconst0 (F : Fx X K cc own ret d U tb) (hd : decode cc pc = .ok (.fconst 0, 1)) (k : AW X K (pc + 1) lv (aF FP.fconst0 :: st) σ u Q) : AW X K pc lv st σ u Q := by
  obtain ⟨p, l, e, R, s, m, args, below, meth, c⟩ := X
  obtain ⟨g, cy, A, nL, ρ, L⟩ := K
  obtain ⟨hx, hb, hml, hown, hts, hK, hnd, hD, hA, hlk, hret, hR, htr, hZ, hE⟩ := F
  obtain ⟨hE1, rfl⟩ := hE
  intro H locs ls hP hS hl
  exact lv_fconst0 hx hb hd (k H locs ls hP hS hl)
theorem aw_fdivM (F : Fx X K cc own ret d U tb) {a n : Int} (hd : decode cc pc = .ok (.fdiv, 1)) (ha : -16777216 ≤ a ∧ a ≤ 16777216) (hn : 0 < n ∧ n ≤ 16777216) (k : AW X K (pc + 1) lv (aF (meanF a n) :: st) σ u Q) : AW X K pc lv (aF (FP.i2f (Int32.ofInt n)) :: aF (FP.i2f (Int32.ofInt a)) :: st) σ u Q := by
  obtain ⟨p, l, e, R, s, m, args, below, meth, c⟩ := X
  obtain ⟨g, cy, A, nL, ρ, L⟩ := K
  obtain ⟨hx, hb, hml, hown, hts, hK, hnd, hD, hA, hlk, hret, hR, htr, hZ, hE⟩ := F
  obtain ⟨hE1, rfl⟩ := hE
  intro H locs ls hP hS hl
  exact lv_fdiv hx hb hd (nn32 (mean_val ha hn)) (k H locs ls hP hS hl)
theorem aw_callVF0 {Q2 : UInt32 → Hp → Prop} (F : Fx X K cc own ret d U tb) (hd : decode cc pc = .ok (.invokevirtual idx, 3)) (hl9 : MLV own idx y bc mL ry t 0) (hk : kd q = .inl t) (hm : inB q) (hc : CtF d2 0 y bc mL ry [aR q] σ Q2) (hst : stW st ≤ 8) (hdd : d2 + 1 ≤ d) (hu : u ≤ U) (k : ∀ (v : UInt32) (σ' : Hp), Q2 v σ' → AW X K (pc + 3) lv (aF v :: st) σ' u Q) : AW X K pc lv (aR q :: st) σ u Q := by
  obtain ⟨p, l, e, R, s, m, args, below, meth, c⟩ := X
  obtain ⟨g, cy, A, nL, ρ, L⟩ := K
  obtain ⟨hx, hb, hml, hown, hts, hK, hnd, hD, hA, hlk, hret, hR, htr, hZ, hE⟩ := F
  subst hR
  obtain ⟨hE1, rfl⟩ := hE
  intro H locs ls hP hS hl
  obtain ⟨⟨rr, hr1, hr2⟩, -⟩ := id hl9
  obtain ⟨i, hi, hi2⟩ := ws_at (ρ := ρ) (cy := cy) (σ := σ) (memL (by rw [hk]; intro z; cases z; exact absurd (vw_lt hr1) (by decide)) hm)
  rw [ent_obj hk] at hi2
  have hf9 : ∀ q, Aof ρ Lall H.size q → A q := fun q h => h.elim (fun ⟨i, hi, he⟩ => he ▸ wsA_D hD i hi) (fun h => hA q (Nat.le_trans hS.1 h))
  have hM := hc l g cy ρ H.size htr
  refine va_callf (va_runV (As := [].map (cv ρ)) (rest := st.map (cv ρ)) ⟨hx, hb, hml, hown, hts⟩ hM (hl9.cw hts hdd) ⟨WRs_blind, hr2 ▸ va_recv hK hP hr1 hi2, fun V hV hW => ⟨rfl, WRs_call hK hD hA hZ hP hS hV hW⟩⟩ rfl rfl hl.1 rfl (lv_room (Nat.le_trans (st_cat st) hst)) hd ⟨hu, by show 64 * u + 64 * 0 ≤ 64 * U; omega⟩) hS (fun q _ h => hf9 q h) hf9 (fun v9 u9 t9 H1 locs1 ht hvm hw hB hz1 hk1 hS1 => ?_)
  obtain ⟨hw1, hw2⟩ := hw
  subst hw1
  have hP1 : va_P g vwCl (wsOf ρ cy Lall u9.2) H1 := by rw [← ht]; exact hB.1
  exact k u9.1 u9.2 hw2 H1 locs1 ls hP1 hS1 hl

end FROW
