/-! 06b: switches, constants, copies -/
section MORE
variable {X : Cx} {K : Kx} {cc : ByteArray} {own : String} {ret : Option FieldType} {d U pc u : Nat} {lv st : List AV} {M : Id4 → Int → Int} {Rf : Id4 → Int → Option Id4} {Q : State → Prop} {tb : Bool}
theorem aw_tabOut (F : Fx X K cc own ret d U tb) {x dflt lo hi : Int} {offs : Array Int} {len tgt : Nat} (hd : decode cc pc = .ok (.tableswitch dflt lo hi offs, len)) (hx2 : inR x) (h : x < lo ∨ hi < x) (ht : (pc : Int) + dflt = (tgt : Int)) (k : AW X K tgt lv st (M, Rf) u Q) : AW X K pc lv (aI x :: st) (M, Rf) u Q := by
  obtain ⟨p, l, e, R, s, m, args, below, meth, c⟩ := X
  obtain ⟨g, cy, A, nL, ρ, L⟩ := K
  obtain ⟨hx, hb, hml, hown, hts, hK, hnd, hD, hA, hlk, hret, hR, htr, hZ, hE⟩ := F
  intro H locs ls hP hS hl
  exact lv_tableOut hx hb hd (by rw [oi_inR hx2]; exact h) ht (k H locs ls hP hS hl)
theorem aw_tabIn (F : Fx X K cc own ret d U tb) {x dflt lo hi off : Int} {offs : Array Int} {len tgt : Nat} (hd : decode cc pc = .ok (.tableswitch dflt lo hi offs, len)) (hx2 : inR x) (h : lo ≤ x ∧ x ≤ hi) (ho : offs[(x - lo).toNat]? = some off) (ht : (pc : Int) + off = (tgt : Int)) (k : AW X K tgt lv st (M, Rf) u Q) : AW X K pc lv (aI x :: st) (M, Rf) u Q := by
  obtain ⟨p, l, e, R, s, m, args, below, meth, c⟩ := X
  obtain ⟨g, cy, A, nL, ρ, L⟩ := K
  obtain ⟨hx, hb, hml, hown, hts, hK, hnd, hD, hA, hlk, hret, hR, htr, hZ, hE⟩ := F
  intro H locs ls hP hS hl
  exact lv_tableIn hx hb hd (by rw [oi_inR hx2]; omega) (by rw [oi_inR hx2]; omega) (by rw [oi_inR hx2]; exact ho) ht (k H locs ls hP hS hl)
theorem aw_ldc (F : Fx X K cc own ret d U tb) {idx : Nat} {x : Int} (hd : decode cc pc = .ok (.ldc idx, 2)) (hc : Cond.constant own idx (Int32.ofInt x) ∈ Gw) (k : AW X K (pc + 2) lv (aI x :: st) (M, Rf) u Q) : AW X K pc lv st (M, Rf) u Q := by
  obtain ⟨p, l, e, R, s, m, args, below, meth, c⟩ := X
  obtain ⟨g, cy, A, nL, ρ, L⟩ := K
  obtain ⟨hx, hb, hml, hown, hts, hK, hnd, hD, hA, hlk, hret, hR, htr, hZ, hE⟩ := F
  intro H locs ls hP hS hl
  exact lv_ldc hx hb hown (hts _ hc) hd (k H locs ls hP hS hl)
theorem aw_ldcw (F : Fx X K cc own ret d U tb) {idx : Nat} {x : Int} (hd : decode cc pc = .ok (.ldc_w idx, 3)) (hc : Cond.constant own idx (Int32.ofInt x) ∈ Gw) (k : AW X K (pc + 3) lv (aI x :: st) (M, Rf) u Q) : AW X K pc lv st (M, Rf) u Q := by
  obtain ⟨p, l, e, R, s, m, args, below, meth, c⟩ := X
  obtain ⟨g, cy, A, nL, ρ, L⟩ := K
  obtain ⟨hx, hb, hml, hown, hts, hK, hnd, hD, hA, hlk, hret, hR, htr, hZ, hE⟩ := F
  intro H locs ls hP hS hl
  exact lv_ldcw hx hb hown (hts _ hc) hd (k H locs ls hP hS hl)
/-- a copy of n places -/
def cpyM (M : Id4 → Int → Int) (q0 : Id4) (sp : Int) (q1 : Id4) (dp n : Int) : Id4 → Int → Int := fun q k => if q = q1 ∧ dp ≤ k ∧ k < dp + n then M q0 (sp + (k - dp)) else M q k
theorem ent_cpy {ρ : Id4 → Nat} {cy : Nat → ClassId} {q0 q1 : Id4} {e n1 : Nat} {sp dp n : Int} (hk : kd q1 = .inr (e, n1)) (he : e ≤ 3) (h0 : 0 ≤ sp) (h1 : 0 ≤ dp) (h2 : 0 ≤ n) (hs : sp + n ≤ 2000000000) (hd : dp + n ≤ 2000000000) : ent ρ cy (cpyM M q0 sp q1 dp n, Rf) q1 = .inl (cy e, (n1, .inl (va_cpy (fun j => Int32.ofInt (M q0 (j : Int))) (fun j => Int32.ofInt (M q1 (j : Int))) (Int32.ofInt sp).toNatClampNeg (Int32.ofInt dp).toNatClampNeg (Int32.ofInt n).toNatClampNeg))) := by
  rw [ent_arr hk he]
  congr 4
  funext j
  rw [oi_nat h0 (by omega), oi_nat h1 (by omega), oi_nat h2 (by omega)]
  show Int32.ofInt (if q1 = q1 ∧ dp ≤ (j : Int) ∧ (j : Int) < dp + n then M q0 (sp + ((j : Int) - dp)) else M q1 (j : Int)) = if dp.toNat ≤ j ∧ j < dp.toNat + n.toNat then Int32.ofInt (M q0 ((sp.toNat + (j - dp.toNat) : Nat) : Int)) else Int32.ofInt (M q1 (j : Int))
  by_cases hj : dp.toNat ≤ j ∧ j < dp.toNat + n.toNat
  · rw [if_pos hj, if_pos ⟨rfl, by omega, by omega⟩]
    congr 2
    omega
  · rw [if_neg hj, if_neg (fun z => hj (by have := z.2; omega))]
theorem ent_cpyN {ρ : Id4 → Nat} {cy : Nat → ClassId} {q0 q1 q' : Id4} {sp dp n : Int} (h : q' ≠ q1) : ent ρ cy (cpyM M q0 sp q1 dp n, Rf) q' = ent ρ cy (M, Rf) q' := by
  have e : ∀ k', cpyM M q0 sp q1 dp n q' k' = M q' k' := fun k' => if_neg (fun z => h z.1)
  unfold ent flds arrs
  simp only [e]
theorem aw_copy (F : Fx X K cc own ret d U tb) {idx e n0 n1 : Nat} {q0 q1 : Id4} {sp dp n : Int} (hd : decode cc pc = .ok (.invokestatic idx, 3)) (hl9 : MLC own idx) (hk0 : kd q0 = .inr (e, n0)) (hk1 : kd q1 = .inr (e, n1)) (he : e ≤ 3) (hm0 : inB q0) (hm1 : inB q1) (h0 : 0 ≤ sp ∧ sp + n ≤ n0) (h1 : 0 ≤ dp ∧ dp + n ≤ n1) (h2 : 0 ≤ n) (hfit : ∀ j, sp ≤ j → j < sp + n → fits (eT e) (.int (Int32.ofInt (M q0 j))) = true) (hst : stW st ≤ 8) (hdd : 1 ≤ d) (k : AW X K (pc + 3) lv st (cpyM M q0 sp q1 dp n, Rf) u Q) : AW X K pc lv (aI n :: aI dp :: aR q1 :: aI sp :: aR q0 :: st) (M, Rf) u Q := by
  obtain ⟨p, l, e9, R, s, m, args, below, meth, c⟩ := X
  obtain ⟨g, cy, A, nL, ρ, L⟩ := K
  obtain ⟨hx, hb, hml, hown, hts, hK, hnd, hD, hA, hlk, hret, hR, htr, hZ, hE⟩ := F
  subst hR
  obtain ⟨hE1, rfl⟩ := hE
  intro H locs ls hP hS hl
  obtain ⟨i0, hi0, hi02⟩ := ws_at (ρ := ρ) (cy := cy) (σ := (M, Rf)) (memL (by rw [hk0]; intro z; cases z) hm0)
  obtain ⟨i1, hi1, hi12⟩ := ws_at (ρ := ρ) (cy := cy) (σ := (M, Rf)) (memL (by rw [hk1]; intro z; cases z) hm1)
  rw [ent_arr hk0 he] at hi02
  rw [ent_arr hk1 he] at hi12
  have hs0 := (kd_small hk0 hm0).1
  have hs1 := (kd_small hk1 hm1).1
  obtain ⟨l1, l2, l3, l4⟩ := hl9
  have ht : (tysOf cy)[e]? = some (cy e, eT e) := by unfold tysOf; rw [List.getElem?_map, List.getElem?_range (by omega)]; rfl
  have e1 := oi_nat (i := sp) h0.1 (by omega)
  have e2 := oi_nat (i := dp) h1.1 (by omega)
  have e3 := oi_nat (i := n) h2 (by omega)
  refine va_copyi (f := fun z => Int32.ofInt (M q0 (z : Int))) (g := fun z => Int32.ofInt (M q1 (z : Int))) (ty := eT e) hx hb (hml.trans hl.1.symm) hown (hts _ l1) (hts _ l2) (hts _ l3) (hts _ l4) hK hP (wsD hD (M, Rf)) hS i0 i1 e e hi02 hi12 ht ht (by rcases (show e = 0 ∨ e = 1 ∨ e = 2 ∨ e = 3 by omega) with z | z | z | z <;> rw [z] <;> rfl) (fun h => absurd ((oi_lt (by unfold inR; omega) inR0).mp h) (by omega)) (fun h => absurd ((oi_lt (by unfold inR; omega) inR0).mp h) (by omega)) (fun h => absurd ((oi_lt (by unfold inR; omega) inR0).mp h) (by omega)) (by rw [e1, e3]; omega) (by rw [e2, e3]; omega) (fun i hi => ?_) hdd (by have := st_cat (ρ := ρ) st; have h9 : nativeFrameWords "java/lang/System" "arraycopy" 5 + 11 ≤ 72 := (by decide +kernel); show _ ≤ 80 * d; omega) hd (fun H1 locs1 hP1 hD1 hS1 => ?_)
  · rw [e3] at hi
    rw [e1]
    exact hfit _ (by omega) (by omega)
  · have e9 := ws_set (ρ := ρ) (cy := cy) (σ := (M, Rf)) (σ' := (cpyM M q0 sp q1 dp n, Rf)) hnd hi1 (ent_cpy (Rf := Rf) hk1 he h0.1 h1.1 h2 (by omega) (by omega)) (fun q' h => ent_cpyN h)
    exact k H1 locs1 ls (e9 ▸ hP1) hS1 hl
end MORE
theorem nz0 : ((0 : Nat) : Int) = 0 := rfl
theorem nz1 : ((1 : Nat) : Int) = 1 := rfl
theorem nz2 : ((2 : Nat) : Int) = 2 := rfl
theorem nz3 : ((3 : Nat) : Int) = 3 := rfl
theorem nz4 : ((4 : Nat) : Int) = 4 := rfl
theorem nz5 : ((5 : Nat) : Int) = 5 := rfl
theorem nz6 : ((6 : Nat) : Int) = 6 := rfl
theorem nz7 : ((7 : Nat) : Int) = 7 := rfl
theorem nz8 : ((8 : Nat) : Int) = 8 := rfl
theorem nz9 : ((9 : Nat) : Int) = 9 := rfl
theorem nz10 : ((10 : Nat) : Int) = 10 := rfl
theorem nz11 : ((11 : Nat) : Int) = 11 := rfl
theorem nz12 : ((12 : Nat) : Int) = 12 := rfl
theorem nz13 : ((13 : Nat) : Int) = 13 := rfl
theorem nz14 : ((14 : Nat) : Int) = 14 := rfl
theorem nz15 : ((15 : Nat) : Int) = 15 := rfl
theorem nz16 : ((16 : Nat) : Int) = 16 := rfl
theorem nz17 : ((17 : Nat) : Int) = 17 := rfl
theorem nz18 : ((18 : Nat) : Int) = 18 := rfl
theorem nz19 : ((19 : Nat) : Int) = 19 := rfl
theorem nz20 : ((20 : Nat) : Int) = 20 := rfl
theorem nz21 : ((21 : Nat) : Int) = 21 := rfl
theorem nz22 : ((22 : Nat) : Int) = 22 := rfl
theorem nz23 : ((23 : Nat) : Int) = 23 := rfl
theorem nz24 : ((24 : Nat) : Int) = 24 := rfl
theorem nz25 : ((25 : Nat) : Int) = 25 := rfl
theorem nz26 : ((26 : Nat) : Int) = 26 := rfl
theorem nz27 : ((27 : Nat) : Int) = 27 := rfl
theorem nz28 : ((28 : Nat) : Int) = 28 := rfl
theorem nz29 : ((29 : Nat) : Int) = 29 := rfl
theorem nz30 : ((30 : Nat) : Int) = 30 := rfl
theorem nz31 : ((31 : Nat) : Int) = 31 := rfl
theorem nz32 : ((32 : Nat) : Int) = 32 := rfl
theorem nz33 : ((33 : Nat) : Int) = 33 := rfl
theorem nz34 : ((34 : Nat) : Int) = 34 := rfl
theorem nz35 : ((35 : Nat) : Int) = 35 := rfl
theorem nz36 : ((36 : Nat) : Int) = 36 := rfl
theorem nz37 : ((37 : Nat) : Int) = 37 := rfl
theorem nz38 : ((38 : Nat) : Int) = 38 := rfl
theorem nz39 : ((39 : Nat) : Int) = 39 := rfl
theorem nz40 : ((40 : Nat) : Int) = 40 := rfl
