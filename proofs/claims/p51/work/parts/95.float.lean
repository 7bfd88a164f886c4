/-! 95: floats: a mean of whole numbers is a number; contracts that answer a float -/
section
theorem nn32 {x : UInt32} (h : Jvm.FP.Core.val32 x ≠ .nan) : vf_n32 x := by
  unfold vf_n32
  rw [UInt32.le_iff_toNat_le, UInt32.toNat_and]
  show x.toNat &&& (2 ^ 31 - 1) ≤ 2139095040
  rw [Nat.and_two_pow_sub_one_eq_mod]
  refine Nat.le_of_not_lt (fun hc => h ?_)
  have hx := x.toNat_lt
  unfold Jvm.FP.Core.val32 Jvm.FP.Core.decode
  have e1 : Jvm.FP.Core.fieldE Jvm.FP.Core.b32 x.toNat = Jvm.FP.Core.b32.exps - 1 := by
    show x.toNat / 8388608 % 256 = 255
    omega
  have e2 : Jvm.FP.Core.fieldT Jvm.FP.Core.b32 x.toNat ≠ 0 := by
    show x.toNat % 8388608 ≠ 0
    omega
  rw [if_pos e1, if_neg e2]
/-- a mean -/
def meanF (a n : Int) : UInt32 := FP.fdiv (FP.i2f (Int32.ofInt a)) (FP.i2f (Int32.ofInt n))
theorem rr_fin {f : Jvm.FP.Core.Fmt} {s : Bool} {A B : Nat} {e : Int} : Jvm.FP.Core.roundRatio f s A B e ≠ .nan := by
  unfold Jvm.FP.Core.roundRatio
  split
  · intro z; cases z
  · unfold Jvm.FP.Core.roundAt Jvm.FP.Core.settle
    split <;> unfold Jvm.FP.Core.bound <;> split <;> intro z <;> cases z
theorem wh_fin {i : Int} {d : Jvm.FP.Core.Datum} (h : Jvm.FP.Core.Whole i d) : ∃ s c q, d = .fin s c q ∧ (c = 0 ↔ i = 0) := by
  cases d with
  | nan => exact h.elim
  | inf => exact h.elim
  | fin s c q => exact ⟨s, c, q, rfl, Jvm.FP.Core.whole_zero h⟩
theorem i2f_wh {a : Int} (h : -16777216 ≤ a ∧ a ≤ 16777216) : Jvm.FP.Core.Whole a (Jvm.FP.Core.val32 (FP.i2f (Int32.ofInt a))) := by
  show Jvm.FP.Core.Whole a (Jvm.FP.Core.val32 (Jvm.FP.Core.i2f (Int32.ofInt a)))
  rw [Jvm.FP.Core.val32_i2f, oi_inR (by unfold inR; omega)]
  exact Jvm.FP.Core.whole_round Jvm.FP.Core.good_b32 Jvm.FP.Core.wide_b32 (show a.natAbs ≤ 16777216 by omega) (Jvm.FP.Core.whole_ofInt _)
theorem mean_val {a n : Int} (h : -16777216 ≤ a ∧ a ≤ 16777216) (hn : 0 < n ∧ n ≤ 16777216) : Jvm.FP.Core.val32 (meanF a n) ≠ .nan := by
  obtain ⟨s, c, q, e1, -⟩ := wh_fin (i2f_wh h)
  obtain ⟨s2, c2, q2, e2, e3⟩ := wh_fin (i2f_wh (a := n) (by omega))
  show Jvm.FP.Core.val32 (Jvm.FP.Core.fdiv (FP.i2f (Int32.ofInt a)) (FP.i2f (Int32.ofInt n))) ≠ _
  rw [Jvm.FP.Core.val32_fdiv, e1, e2]
  unfold Jvm.FP.Core.quotient
  dsimp only
  rw [if_neg (fun z => by have := e3.mp z; omega)]
  exact rr_fin
end
def QF (g : va_G) (cy : Nat → ClassId) (ρ : Id4 → Nat) (A : Nat → Prop) (Q : UInt32 → Hp → Prop) : Array Value → State → Outcome → State → Prop := va_Qf (fun (r : UInt32) (u : UInt32 × Hp) => r = u.1 ∧ Q u.1 u.2) (fun u t => WB g cy ρ Lall u.2 t) A
def CtF (d U : Nat) (y : MethodName) (bc : ByteArray) (mL : Nat) (ret : Option FieldType) (args : List AV) (σ : Hp) (Q : UInt32 → Hp → Prop) : Prop :=
  ∀ (l : Launch) (g : va_G) (cy : Nat → ClassId) (ρ : Id4 → Nat) (sz : Nat), l.stackTraces = false → Met l y (Cond.code y bc mL ret :: Gw) (rmOf d U) (PC g cy ρ σ sz args) (QF g cy ρ (Aof ρ Lall sz) Q) U (64 * U) (Aof ρ Lall sz)
def EF (X : Cx) (K : Kx) (U : Nat) (Q : UInt32 → Hp → Prop) : State → Prop := match X, K with
  | (_, _, _, _, s, _, args, below, _, _), (g, cy, A, _, ρ, _) => MQ below (QF g cy ρ A Q) args s U (64 * U) A
theorem CtF.mk {d U : Nat} {y : MethodName} {bc : ByteArray} {mL : Nat} {ret : Option FieldType} {args : List AV} {σ : Hp} {Q : UInt32 → Hp → Prop} (hy : plainName y.cls = true) (hw : narrowArgs args = true) (hn : args.length ≤ mL) (h : ∀ (X : Cx) (K : Kx), Fx X K bc y.cls ret d U false → K.2.2.2.1 = mL → AW X K 0 (args ++ List.replicate (mL - args.length) aX) [] σ 0 (EF X K U Q)) : CtF d U y bc mL ret args σ Q := by
  intro l g cy ρ sz htr
  refine Met.ofW (cc := bc) (maxL := mL) (ret := ret) hy rfl ?_
  intro p e s m args' below meth c s₁ B hml hv
  obtain ⟨rfl, hsz, hP, hK, hD0, hZ⟩ := hv
  subst hsz
  have hts := atoms_spec (ws := Cond.code y bc mL ret :: Gw) B.pre
  have F : Fx (p, l, e, rmOf d U, s, m, (args.map (cv ρ)).toArray, below, meth, c) (g, cy, Aof ρ Lall s.heap.size, mL, ρ, Lall) bc y.cls ret d U false :=
    ⟨B.exec, B.bytes, hml, findClass_of_methodNamed B.named, fun w h => hts w (List.mem_cons_of_mem _ h), hK, Lall_nodup, Aof_D hD0, Aof_hA, B.notSynchronized, B.returns, rfl, htr, hZ, (fun z => by cases z), rfl⟩
  have k := h _ _ F rfl s.heap [] _ hP va_S.rf (lh_entry (ρ := ρ) hw hn)
  rw [lg_entry_eq]
  exact k

section FRET
variable {X : Cx} {K : Kx} {cc : ByteArray} {own : String} {ret : Option FieldType} {d U pc u : Nat} {lv st : List AV} {σ : Hp} {tb : Bool}
theorem aw_fret {Q : UInt32 → Hp → Prop} {v : UInt32} (F : Fx X K cc own (some .float) d U tb) (hd : decode cc pc = .ok (.freturn, 1)) (hu : u ≤ U) (hq : Q v σ) : AW X K pc lv [aF v] σ u (EF X K U Q) := by
  obtain ⟨p, l, e, R, s, m, args, below, meth, c⟩ := X
  obtain ⟨g, cy, A, nL, ρ, L⟩ := K
  obtain ⟨hx, hb, hml, hown, hts, hK, hnd, hD, hA, hlk, hret, hR, htr, hZ, hE⟩ := F
  subst hR
  obtain ⟨hE1, rfl⟩ := hE
  intro H locs ls hP hS hl
  refine W.widen hu (Nat.mul_le_mul_left 64 hu) ?_
  exact W.fret hx hb hret (fun t ht hW => ⟨⟨v, (v, σ), rfl, ⟨rfl, hq⟩, by rw [ht]; exact hP, va_K.moved hW.alike hK⟩, hS.F ht⟩) hS.2.2 hd hlk
end FRET
section FROW
variable {M : Id4 → Int → Int} {Rf : Id4 → Int → Option Id4} {X : Cx} {K : Kx} {cc bc : ByteArray} {own : String} {ret ry : Option FieldType} {d U d2 U2 pc u mL idx t : Nat} {lv st : List AV} {σ : Hp} {tb : Bool} {y : MethodName} {q : Id4} {Q : State → Prop}
theorem aw_fconst0 (F : Fx X K cc own ret d U tb) (hd : decode cc pc = .ok (.fconst 0, 1)) (k : AW X K (pc + 1) lv (aF FP.fconst0 :: st) σ u Q) : AW X K pc lv st σ u Q := by
  obtain ⟨p, l, e, R, s, m, args, below, meth, c⟩ := X
  obtain ⟨g, cy, A, nL, ρ, L⟩ := K
  obtain ⟨hx, hb, hml, hown, hts, hK, hnd, hD, hA, hlk, hret, hR, htr, hZ, hE⟩ := F
  obtain ⟨hE1, rfl⟩ := hE
  intro H locs ls hP hS hl
  exact lv_fconst0 hx hb hd (k H locs ls hP hS hl)
theorem aw_fdivM (F : Fx X K cc own ret d U tb) {a n : Int} (hd : decode cc pc = .ok (.fdiv, 1)) (ha : -16777216 ≤ a ∧ a ≤ 16777216) (hn : 0 < n ∧ n ≤ 16777216) (k : AW X K (pc + 1) lv (aF (meanF a n) :: st) σ u Q) : AW X K pc lv (aF (FP.i2f (Int32.ofInt n)) :: aF (FP.i2f (Int32.ofInt a)) :: st) σ u Q := by
  obtain ⟨p, l, e, R, s, m, args, below, meth, c⟩ := X
  obtain ⟨g, cy, A, nL, ρ, L⟩ := K
  obtain ⟨hx, hb, hml, hown, hts, hK, hnd, hD, hA, hlk, hret, hR, htr, hZ, hE⟩ := F
  obtain ⟨hE1, rfl⟩ := hE
  intro H locs ls hP hS hl
  exact lv_fdiv hx hb hd (nn32 (mean_val ha hn)) (k H locs ls hP hS hl)
end FROW
