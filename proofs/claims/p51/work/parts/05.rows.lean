/-! 05: one abstract row an instruction -/
section ROWS
variable {X : Cx} {K : Kx} {cc : ByteArray} {own : String} {ret : Option FieldType} {d U pc u : Nat} {lv st : List AV} {M : Id4 → Int → Int} {Rf : Id4 → Int → Option Id4} {Q : State → Prop} {tb : Bool}
theorem aw_iconst (F : Fx X K cc own ret d U tb) {n : Int} (hd : decode cc pc = .ok (.iconst n, 1)) (k : AW X K (pc + 1) lv (aI n :: st) (M, Rf) u Q) : AW X K pc lv (st) (M, Rf) u Q := by
  obtain ⟨p, l, e, R, s, m, args, below, meth, c⟩ := X
  obtain ⟨g, cy, A, nL, ρ, L⟩ := K
  obtain ⟨hx, hb, hml, hown, hts, hK, hnd, hD, hA, hlk, hret, hR, htr, hZ, hE⟩ := F
  obtain ⟨hE1, rfl⟩ := hE
  intro H locs ls hP hS hl
  exact lv_iconst hx hb hd rfl (k H locs ls hP hS hl)
theorem aw_bipush (F : Fx X K cc own ret d U tb) {n : Int} (hd : decode cc pc = .ok (.bipush n, 2)) (hv : (Int8.ofInt n).toInt32 = Int32.ofInt n) (k : AW X K (pc + 2) lv (aI n :: st) (M, Rf) u Q) : AW X K pc lv (st) (M, Rf) u Q := by
  obtain ⟨p, l, e, R, s, m, args, below, meth, c⟩ := X
  obtain ⟨g, cy, A, nL, ρ, L⟩ := K
  obtain ⟨hx, hb, hml, hown, hts, hK, hnd, hD, hA, hlk, hret, hR, htr, hZ, hE⟩ := F
  obtain ⟨hE1, rfl⟩ := hE
  intro H locs ls hP hS hl
  exact lv_bipush hx hb hd hv (k H locs ls hP hS hl)
theorem aw_sipush (F : Fx X K cc own ret d U tb) {n : Int} (hd : decode cc pc = .ok (.sipush n, 3)) (hv : (Int16.ofInt n).toInt32 = Int32.ofInt n) (k : AW X K (pc + 3) lv (aI n :: st) (M, Rf) u Q) : AW X K pc lv (st) (M, Rf) u Q := by
  obtain ⟨p, l, e, R, s, m, args, below, meth, c⟩ := X
  obtain ⟨g, cy, A, nL, ρ, L⟩ := K
  obtain ⟨hx, hb, hml, hown, hts, hK, hnd, hD, hA, hlk, hret, hR, htr, hZ, hE⟩ := F
  obtain ⟨hE1, rfl⟩ := hE
  intro H locs ls hP hS hl
  exact lv_sipush hx hb hd hv (k H locs ls hP hS hl)
theorem aw_iadd (F : Fx X K cc own ret d U tb) {x y : Int} (hd : decode cc pc = .ok (.iadd, 1)) (k : AW X K (pc + 1) lv (aI (x + y) :: st) (M, Rf) u Q) : AW X K pc lv (aI y :: aI x :: st) (M, Rf) u Q := by
  obtain ⟨p, l, e, R, s, m, args, below, meth, c⟩ := X
  obtain ⟨g, cy, A, nL, ρ, L⟩ := K
  obtain ⟨hx, hb, hml, hown, hts, hK, hnd, hD, hA, hlk, hret, hR, htr, hZ, hE⟩ := F
  obtain ⟨hE1, rfl⟩ := hE
  intro H locs ls hP hS hl
  refine lv_iadd hx hb hd ?_
  rw [← Int32.ofInt_add]
  exact k H locs ls hP hS hl
theorem aw_isub (F : Fx X K cc own ret d U tb) {x y : Int} (hd : decode cc pc = .ok (.isub, 1)) (k : AW X K (pc + 1) lv (aI (x - y) :: st) (M, Rf) u Q) : AW X K pc lv (aI y :: aI x :: st) (M, Rf) u Q := by
  obtain ⟨p, l, e, R, s, m, args, below, meth, c⟩ := X
  obtain ⟨g, cy, A, nL, ρ, L⟩ := K
  obtain ⟨hx, hb, hml, hown, hts, hK, hnd, hD, hA, hlk, hret, hR, htr, hZ, hE⟩ := F
  obtain ⟨hE1, rfl⟩ := hE
  intro H locs ls hP hS hl
  refine lv_isub hx hb hd ?_
  rw [← Int32.ofInt_sub]
  exact k H locs ls hP hS hl
theorem aw_imul (F : Fx X K cc own ret d U tb) {x y : Int} (hd : decode cc pc = .ok (.imul, 1)) (k : AW X K (pc + 1) lv (aI (x * y) :: st) (M, Rf) u Q) : AW X K pc lv (aI y :: aI x :: st) (M, Rf) u Q := by
  obtain ⟨p, l, e, R, s, m, args, below, meth, c⟩ := X
  obtain ⟨g, cy, A, nL, ρ, L⟩ := K
  obtain ⟨hx, hb, hml, hown, hts, hK, hnd, hD, hA, hlk, hret, hR, htr, hZ, hE⟩ := F
  obtain ⟨hE1, rfl⟩ := hE
  intro H locs ls hP hS hl
  refine lv_imul hx hb hd ?_
  rw [← Int32.ofInt_mul]
  exact k H locs ls hP hS hl
theorem aw_ineg (F : Fx X K cc own ret d U tb) {x : Int} (hd : decode cc pc = .ok (.ineg, 1)) (k : AW X K (pc + 1) lv (aI (-x) :: st) (M, Rf) u Q) : AW X K pc lv (aI x :: st) (M, Rf) u Q := by
  obtain ⟨p, l, e, R, s, m, args, below, meth, c⟩ := X
  obtain ⟨g, cy, A, nL, ρ, L⟩ := K
  obtain ⟨hx, hb, hml, hown, hts, hK, hnd, hD, hA, hlk, hret, hR, htr, hZ, hE⟩ := F
  obtain ⟨hE1, rfl⟩ := hE
  intro H locs ls hP hS hl
  refine lv_ineg hx hb hd ?_
  rw [← Int32.ofInt_neg]
  exact k H locs ls hP hS hl
theorem aw_idiv (F : Fx X K cc own ret d U tb) {x y : Int} (hd : decode cc pc = .ok (.idiv, 1)) (hx2 : inR x) (hy : inR y) (hy0 : ¬ y = 0) (hy1 : 0 ≤ y) (k : AW X K (pc + 1) lv (aI (x.tdiv y) :: st) (M, Rf) u Q) : AW X K pc lv (aI y :: aI x :: st) (M, Rf) u Q := by
  obtain ⟨p, l, e, R, s, m, args, below, meth, c⟩ := X
  obtain ⟨g, cy, A, nL, ρ, L⟩ := K
  obtain ⟨hx, hb, hml, hown, hts, hK, hnd, hD, hA, hlk, hret, hR, htr, hZ, hE⟩ := F
  obtain ⟨hE1, rfl⟩ := hE
  intro H locs ls hP hS hl
  refine lv_idiv hx hb hd (fun h => hy0 (oi_inj hy inR0 h)) ?_
  rw [oi_div hx2 hy (by omega)]
  exact k H locs ls hP hS hl
theorem aw_irem (F : Fx X K cc own ret d U tb) {x y : Int} (hd : decode cc pc = .ok (.irem, 1)) (hx2 : inR x) (hy : inR y) (hy0 : ¬ y = 0) (hy1 : 0 ≤ y) (k : AW X K (pc + 1) lv (aI (x.tmod y) :: st) (M, Rf) u Q) : AW X K pc lv (aI y :: aI x :: st) (M, Rf) u Q := by
  obtain ⟨p, l, e, R, s, m, args, below, meth, c⟩ := X
  obtain ⟨g, cy, A, nL, ρ, L⟩ := K
  obtain ⟨hx, hb, hml, hown, hts, hK, hnd, hD, hA, hlk, hret, hR, htr, hZ, hE⟩ := F
  obtain ⟨hE1, rfl⟩ := hE
  intro H locs ls hP hS hl
  refine lv_irem hx hb hd (fun h => hy0 (oi_inj hy inR0 h)) ?_
  have e9 : Int32.ofInt x - Int32.ofInt x / Int32.ofInt y * Int32.ofInt y = Int32.ofInt (x.tmod y) := by rw [oi_div hx2 hy hy1, ← Int32.ofInt_mul, ← Int32.ofInt_sub, Int.tmod_def, Int.mul_comm y]
  rw [e9]
  exact k H locs ls hP hS hl
theorem aw_ishl (F : Fx X K cc own ret d U tb) {x y : Int} (hd : decode cc pc = .ok (.ishl, 1)) (k : AW X K (pc + 1) lv (aI (bShl x y) :: st) (M, Rf) u Q) : AW X K pc lv (aI y :: aI x :: st) (M, Rf) u Q := by
  obtain ⟨p, l, e, R, s, m, args, below, meth, c⟩ := X
  obtain ⟨g, cy, A, nL, ρ, L⟩ := K
  obtain ⟨hx, hb, hml, hown, hts, hK, hnd, hD, hA, hlk, hret, hR, htr, hZ, hE⟩ := F
  obtain ⟨hE1, rfl⟩ := hE
  intro H locs ls hP hS hl
  refine lv_ishl hx hb hd ?_
  rw [← Int32.ofInt_toInt (Int32.ofInt x <<< (Int32.ofInt y &&& 31))]
  exact k H locs ls hP hS hl
theorem aw_ishr (F : Fx X K cc own ret d U tb) {x y : Int} (hd : decode cc pc = .ok (.ishr, 1)) (k : AW X K (pc + 1) lv (aI (bShr x y) :: st) (M, Rf) u Q) : AW X K pc lv (aI y :: aI x :: st) (M, Rf) u Q := by
  obtain ⟨p, l, e, R, s, m, args, below, meth, c⟩ := X
  obtain ⟨g, cy, A, nL, ρ, L⟩ := K
  obtain ⟨hx, hb, hml, hown, hts, hK, hnd, hD, hA, hlk, hret, hR, htr, hZ, hE⟩ := F
  obtain ⟨hE1, rfl⟩ := hE
  intro H locs ls hP hS hl
  refine lv_ishr hx hb hd ?_
  rw [← Int32.ofInt_toInt (Int32.ofInt x >>> (Int32.ofInt y &&& 31))]
  exact k H locs ls hP hS hl
theorem aw_iand (F : Fx X K cc own ret d U tb) {x y : Int} (hd : decode cc pc = .ok (.iand, 1)) (k : AW X K (pc + 1) lv (aI (bAnd x y) :: st) (M, Rf) u Q) : AW X K pc lv (aI y :: aI x :: st) (M, Rf) u Q := by
  obtain ⟨p, l, e, R, s, m, args, below, meth, c⟩ := X
  obtain ⟨g, cy, A, nL, ρ, L⟩ := K
  obtain ⟨hx, hb, hml, hown, hts, hK, hnd, hD, hA, hlk, hret, hR, htr, hZ, hE⟩ := F
  obtain ⟨hE1, rfl⟩ := hE
  intro H locs ls hP hS hl
  refine lv_iand hx hb hd ?_
  rw [← Int32.ofInt_toInt (Int32.ofInt x &&& Int32.ofInt y)]
  exact k H locs ls hP hS hl
theorem aw_ior (F : Fx X K cc own ret d U tb) {x y : Int} (hd : decode cc pc = .ok (.ior, 1)) (k : AW X K (pc + 1) lv (aI (bOr x y) :: st) (M, Rf) u Q) : AW X K pc lv (aI y :: aI x :: st) (M, Rf) u Q := by
  obtain ⟨p, l, e, R, s, m, args, below, meth, c⟩ := X
  obtain ⟨g, cy, A, nL, ρ, L⟩ := K
  obtain ⟨hx, hb, hml, hown, hts, hK, hnd, hD, hA, hlk, hret, hR, htr, hZ, hE⟩ := F
  obtain ⟨hE1, rfl⟩ := hE
  intro H locs ls hP hS hl
  refine lv_ior hx hb hd ?_
  rw [← Int32.ofInt_toInt (Int32.ofInt x ||| Int32.ofInt y)]
  exact k H locs ls hP hS hl
theorem aw_ixor (F : Fx X K cc own ret d U tb) {x y : Int} (hd : decode cc pc = .ok (.ixor, 1)) (k : AW X K (pc + 1) lv (aI (bXor x y) :: st) (M, Rf) u Q) : AW X K pc lv (aI y :: aI x :: st) (M, Rf) u Q := by
  obtain ⟨p, l, e, R, s, m, args, below, meth, c⟩ := X
  obtain ⟨g, cy, A, nL, ρ, L⟩ := K
  obtain ⟨hx, hb, hml, hown, hts, hK, hnd, hD, hA, hlk, hret, hR, htr, hZ, hE⟩ := F
  obtain ⟨hE1, rfl⟩ := hE
  intro H locs ls hP hS hl
  refine lv_ixor hx hb hd ?_
  rw [← Int32.ofInt_toInt (Int32.ofInt x ^^^ Int32.ofInt y)]
  exact k H locs ls hP hS hl
theorem aw_iushr (F : Fx X K cc own ret d U tb) {x y : Int} (hd : decode cc pc = .ok (.iushr, 1)) (k : AW X K (pc + 1) lv (aI (bUshr x y) :: st) (M, Rf) u Q) : AW X K pc lv (aI y :: aI x :: st) (M, Rf) u Q := by
  obtain ⟨p, l, e, R, s, m, args, below, meth, c⟩ := X
  obtain ⟨g, cy, A, nL, ρ, L⟩ := K
  obtain ⟨hx, hb, hml, hown, hts, hK, hnd, hD, hA, hlk, hret, hR, htr, hZ, hE⟩ := F
  obtain ⟨hE1, rfl⟩ := hE
  intro H locs ls hP hS hl
  refine lv_iushr hx hb hd rfl ?_
  rw [← Int32.ofInt_toInt ((Int32.ofInt x).toUInt32 >>> ((Int32.ofInt y).toUInt32 &&& Int32.toUInt32 31)).toInt32]
  exact k H locs ls hP hS hl
theorem aw_i2b (F : Fx X K cc own ret d U tb) {x : Int} (hd : decode cc pc = .ok (.i2b, 1)) (k : AW X K (pc + 1) lv (aI (bI2b x) :: st) (M, Rf) u Q) : AW X K pc lv (aI x :: st) (M, Rf) u Q := by
  obtain ⟨p, l, e, R, s, m, args, below, meth, c⟩ := X
  obtain ⟨g, cy, A, nL, ρ, L⟩ := K
  obtain ⟨hx, hb, hml, hown, hts, hK, hnd, hD, hA, hlk, hret, hR, htr, hZ, hE⟩ := F
  obtain ⟨hE1, rfl⟩ := hE
  intro H locs ls hP hS hl
  refine lv_i2b hx hb hd rfl ?_
  rw [← Int32.ofInt_toInt ((Int32.ofInt x).toInt8.toInt32)]
  exact k H locs ls hP hS hl
theorem aw_i2c (F : Fx X K cc own ret d U tb) {x : Int} (hd : decode cc pc = .ok (.i2c, 1)) (h0 : 0 ≤ x) (h1 : x < 65536) (k : AW X K (pc + 1) lv (aI x :: st) (M, Rf) u Q) : AW X K pc lv (aI x :: st) (M, Rf) u Q := by
  obtain ⟨p, l, e, R, s, m, args, below, meth, c⟩ := X
  obtain ⟨g, cy, A, nL, ρ, L⟩ := K
  obtain ⟨hx, hb, hml, hown, hts, hK, hnd, hD, hA, hlk, hret, hR, htr, hZ, hE⟩ := F
  obtain ⟨hE1, rfl⟩ := hE
  intro H locs ls hP hS hl
  have e : ((Int32.ofInt x).toUInt32 % 65536).toInt32 = Int32.ofInt x := oi_char h0 h1
  exact lv_i2c hx hb hd e (k H locs ls hP hS hl)
theorem aw_i2l (F : Fx X K cc own ret d U tb) {x : Int} (hd : decode cc pc = .ok (.i2l, 1)) (h0 : inR x) (k : AW X K (pc + 1) lv (aL x :: st) (M, Rf) u Q) : AW X K pc lv (aI x :: st) (M, Rf) u Q := by
  obtain ⟨p, l, e, R, s, m, args, below, meth, c⟩ := X
  obtain ⟨g, cy, A, nL, ρ, L⟩ := K
  obtain ⟨hx, hb, hml, hown, hts, hK, hnd, hD, hA, hlk, hret, hR, htr, hZ, hE⟩ := F
  obtain ⟨hE1, rfl⟩ := hE
  intro H locs ls hP hS hl
  exact lv_i2l hx hb hd (oi_long h0) (k H locs ls hP hS hl)
theorem aw_i2f (F : Fx X K cc own ret d U tb) {x : Int} (hd : decode cc pc = .ok (.i2f, 1)) (k : AW X K (pc + 1) lv (aF (FP.i2f (Int32.ofInt x)) :: st) (M, Rf) u Q) : AW X K pc lv (aI x :: st) (M, Rf) u Q := by
  obtain ⟨p, l, e, R, s, m, args, below, meth, c⟩ := X
  obtain ⟨g, cy, A, nL, ρ, L⟩ := K
  obtain ⟨hx, hb, hml, hown, hts, hK, hnd, hD, hA, hlk, hret, hR, htr, hZ, hE⟩ := F
  obtain ⟨hE1, rfl⟩ := hE
  intro H locs ls hP hS hl
  exact lv_i2f hx hb hd (k H locs ls hP hS hl)
theorem aw_dupI (F : Fx X K cc own ret d U tb) {x : Int} (hd : decode cc pc = .ok (.dup, 1)) (k : AW X K (pc + 1) lv (aI x :: aI x :: st) (M, Rf) u Q) : AW X K pc lv (aI x :: st) (M, Rf) u Q := by
  obtain ⟨p, l, e, R, s, m, args, below, meth, c⟩ := X
  obtain ⟨g, cy, A, nL, ρ, L⟩ := K
  obtain ⟨hx, hb, hml, hown, hts, hK, hnd, hD, hA, hlk, hret, hR, htr, hZ, hE⟩ := F
  obtain ⟨hE1, rfl⟩ := hE
  intro H locs ls hP hS hl
  exact lv_dup hx hb hd rfl (k H locs ls hP hS hl)
theorem aw_popI (F : Fx X K cc own ret d U tb) {x : Int} (hd : decode cc pc = .ok (.pop, 1)) (k : AW X K (pc + 1) lv (st) (M, Rf) u Q) : AW X K pc lv (aI x :: st) (M, Rf) u Q := by
  obtain ⟨p, l, e, R, s, m, args, below, meth, c⟩ := X
  obtain ⟨g, cy, A, nL, ρ, L⟩ := K
  obtain ⟨hx, hb, hml, hown, hts, hK, hnd, hD, hA, hlk, hret, hR, htr, hZ, hE⟩ := F
  obtain ⟨hE1, rfl⟩ := hE
  intro H locs ls hP hS hl
  exact lv_pop hx hb hd rfl (k H locs ls hP hS hl)
theorem aw_dupR (F : Fx X K cc own ret d U tb) {x : Id4} (hd : decode cc pc = .ok (.dup, 1)) (k : AW X K (pc + 1) lv (aR x :: aR x :: st) (M, Rf) u Q) : AW X K pc lv (aR x :: st) (M, Rf) u Q := by
  obtain ⟨p, l, e, R, s, m, args, below, meth, c⟩ := X
  obtain ⟨g, cy, A, nL, ρ, L⟩ := K
  obtain ⟨hx, hb, hml, hown, hts, hK, hnd, hD, hA, hlk, hret, hR, htr, hZ, hE⟩ := F
  obtain ⟨hE1, rfl⟩ := hE
  intro H locs ls hP hS hl
  exact lv_dup hx hb hd rfl (k H locs ls hP hS hl)
theorem aw_popR (F : Fx X K cc own ret d U tb) {x : Id4} (hd : decode cc pc = .ok (.pop, 1)) (k : AW X K (pc + 1) lv (st) (M, Rf) u Q) : AW X K pc lv (aR x :: st) (M, Rf) u Q := by
  obtain ⟨p, l, e, R, s, m, args, below, meth, c⟩ := X
  obtain ⟨g, cy, A, nL, ρ, L⟩ := K
  obtain ⟨hx, hb, hml, hown, hts, hK, hnd, hD, hA, hlk, hret, hR, htr, hZ, hE⟩ := F
  obtain ⟨hE1, rfl⟩ := hE
  intro H locs ls hP hS hl
  exact lv_pop hx hb hd rfl (k H locs ls hP hS hl)
theorem aw_dup2 (F : Fx X K cc own ret d U tb) {x : Int} {y : Id4} (hd : decode cc pc = .ok (.dup2, 1)) (k : AW X K (pc + 1) lv (aI x :: aR y :: aI x :: aR y :: st) (M, Rf) u Q) : AW X K pc lv (aI x :: aR y :: st) (M, Rf) u Q := by
  obtain ⟨p, l, e, R, s, m, args, below, meth, c⟩ := X
  obtain ⟨g, cy, A, nL, ρ, L⟩ := K
  obtain ⟨hx, hb, hml, hown, hts, hK, hnd, hD, hA, hlk, hret, hR, htr, hZ, hE⟩ := F
  obtain ⟨hE1, rfl⟩ := hE
  intro H locs ls hP hS hl
  exact lv_dup2_11 hx hb hd rfl rfl (k H locs ls hP hS hl)
theorem aw_iload0 (F : Fx X K cc own ret d U tb) {r : List AV} {x : Int} (hd : decode cc pc = .ok (.iload_n 0, 1)) (k : AW X K (pc + 1) (aI x :: r) (aI x :: st) (M, Rf) u Q) : AW X K pc (aI x :: r) (st) (M, Rf) u Q := by
  obtain ⟨p, l, e, R, s, m, args, below, meth, c⟩ := X
  obtain ⟨g, cy, A, nL, ρ, L⟩ := K
  obtain ⟨hx, hb, hml, hown, hts, hK, hnd, hD, hA, hlk, hret, hR, htr, hZ, hE⟩ := F
  obtain ⟨hE1, rfl⟩ := hE
  intro H locs ls hP hS hl
  exact lv_iload_n hx hb hd rfl (hl.2.2 0 (aI x) rfl rfl) (k H locs ls hP hS hl)
theorem aw_istore0 (F : Fx X K cc own ret d U tb) {r : List AV} {x : Int} {w : AV} (hd : decode cc pc = .ok (.istore_n 0, 1)) (hw : (w :: r).all (fun v => !wide v) = true) (hn : (w :: r).length = K.2.2.2.1) (k : AW X K (pc + 1) (aI x :: r) (st) (M, Rf) u Q) : AW X K pc (w :: r) (aI x :: st) (M, Rf) u Q := by
  obtain ⟨p, l, e, R, s, m, args, below, meth, c⟩ := X
  obtain ⟨g, cy, A, nL, ρ, L⟩ := K
  obtain ⟨hx, hb, hml, hown, hts, hK, hnd, hD, hA, hlk, hret, hR, htr, hZ, hE⟩ := F
  obtain ⟨hE1, rfl⟩ := hE
  intro H locs ls hP hS hl
  have hn9 : _ = nL := hn
  refine lv_istore_n (i := 0) hx hb hd rfl (lh_as hl) (by rw [← hn9]; simp only [List.length_cons]; omega) rfl (fun ls' h' => ?_)
  exact k H locs ls' hP hS (lh_set (i := 0) (v := aI x) hl hw (by simp only [List.length_cons]; omega) h')
theorem aw_aload0 (F : Fx X K cc own ret d U tb) {r : List AV} {x : Id4} (hd : decode cc pc = .ok (.aload_n 0, 1)) (k : AW X K (pc + 1) (aR x :: r) (aR x :: st) (M, Rf) u Q) : AW X K pc (aR x :: r) (st) (M, Rf) u Q := by
  obtain ⟨p, l, e, R, s, m, args, below, meth, c⟩ := X
  obtain ⟨g, cy, A, nL, ρ, L⟩ := K
  obtain ⟨hx, hb, hml, hown, hts, hK, hnd, hD, hA, hlk, hret, hR, htr, hZ, hE⟩ := F
  obtain ⟨hE1, rfl⟩ := hE
  intro H locs ls hP hS hl
  exact lv_aload_n hx hb hd rfl (hl.2.2 0 (aR x) rfl rfl) (k H locs ls hP hS hl)
theorem aw_astore0 (F : Fx X K cc own ret d U tb) {r : List AV} {x : Id4} {w : AV} (hd : decode cc pc = .ok (.astore_n 0, 1)) (hw : (w :: r).all (fun v => !wide v) = true) (hn : (w :: r).length = K.2.2.2.1) (k : AW X K (pc + 1) (aR x :: r) (st) (M, Rf) u Q) : AW X K pc (w :: r) (aR x :: st) (M, Rf) u Q := by
  obtain ⟨p, l, e, R, s, m, args, below, meth, c⟩ := X
  obtain ⟨g, cy, A, nL, ρ, L⟩ := K
  obtain ⟨hx, hb, hml, hown, hts, hK, hnd, hD, hA, hlk, hret, hR, htr, hZ, hE⟩ := F
  obtain ⟨hE1, rfl⟩ := hE
  intro H locs ls hP hS hl
  have hn9 : _ = nL := hn
  refine lv_astore_n (i := 0) hx hb hd rfl (lh_as hl) (by rw [← hn9]; simp only [List.length_cons]; omega) rfl (fun ls' h' => ?_)
  exact k H locs ls' hP hS (lh_set (i := 0) (v := aR x) hl hw (by simp only [List.length_cons]; omega) h')
theorem aw_iinc0 (F : Fx X K cc own ret d U tb) {r : List AV} {x n : Int} (hd : decode cc pc = .ok (.iinc 0 n, 3)) (hw : (aI x :: r).all (fun v => !wide v) = true) (hn : (aI x :: r).length = K.2.2.2.1) (k : AW X K (pc + 3) (aI (x + n) :: r) (st) (M, Rf) u Q) : AW X K pc (aI x :: r) (st) (M, Rf) u Q := by
  obtain ⟨p, l, e, R, s, m, args, below, meth, c⟩ := X
  obtain ⟨g, cy, A, nL, ρ, L⟩ := K
  obtain ⟨hx, hb, hml, hown, hts, hK, hnd, hD, hA, hlk, hret, hR, htr, hZ, hE⟩ := F
  obtain ⟨hE1, rfl⟩ := hE
  intro H locs ls hP hS hl
  obtain ⟨j, hj⟩ := lh_mem (i := 0) (v := aI x) hl rfl rfl
  have hn9 : _ = nL := hn
  refine lv_iinc hx hb hd (lh_as hl) hj (v := Int32.ofInt (x + n)) (Int32.ofInt_add x n).symm (by rw [← hn9]; simp only [List.length_cons]; omega) rfl (fun ls' h' => ?_)
  exact k H locs ls' hP hS (lh_set (i := 0) (v := aI (x + n)) hl hw (by simp only [List.length_cons]; omega) h')
theorem aw_iload1 (F : Fx X K cc own ret d U tb) {a0 : AV} {r : List AV} {x : Int} (hd : decode cc pc = .ok (.iload_n 1, 1)) (k : AW X K (pc + 1) (a0 :: aI x :: r) (aI x :: st) (M, Rf) u Q) : AW X K pc (a0 :: aI x :: r) (st) (M, Rf) u Q := by
  obtain ⟨p, l, e, R, s, m, args, below, meth, c⟩ := X
  obtain ⟨g, cy, A, nL, ρ, L⟩ := K
  obtain ⟨hx, hb, hml, hown, hts, hK, hnd, hD, hA, hlk, hret, hR, htr, hZ, hE⟩ := F
  obtain ⟨hE1, rfl⟩ := hE
  intro H locs ls hP hS hl
  exact lv_iload_n hx hb hd rfl (hl.2.2 1 (aI x) rfl rfl) (k H locs ls hP hS hl)
theorem aw_istore1 (F : Fx X K cc own ret d U tb) {a0 : AV} {r : List AV} {x : Int} {w : AV} (hd : decode cc pc = .ok (.istore_n 1, 1)) (hw : (a0 :: w :: r).all (fun v => !wide v) = true) (hn : (a0 :: w :: r).length = K.2.2.2.1) (k : AW X K (pc + 1) (a0 :: aI x :: r) (st) (M, Rf) u Q) : AW X K pc (a0 :: w :: r) (aI x :: st) (M, Rf) u Q := by
  obtain ⟨p, l, e, R, s, m, args, below, meth, c⟩ := X
  obtain ⟨g, cy, A, nL, ρ, L⟩ := K
  obtain ⟨hx, hb, hml, hown, hts, hK, hnd, hD, hA, hlk, hret, hR, htr, hZ, hE⟩ := F
  obtain ⟨hE1, rfl⟩ := hE
  intro H locs ls hP hS hl
  have hn9 : _ = nL := hn
  refine lv_istore_n (i := 1) hx hb hd rfl (lh_as hl) (by rw [← hn9]; simp only [List.length_cons]; omega) rfl (fun ls' h' => ?_)
  exact k H locs ls' hP hS (lh_set (i := 1) (v := aI x) hl hw (by simp only [List.length_cons]; omega) h')
theorem aw_aload1 (F : Fx X K cc own ret d U tb) {a0 : AV} {r : List AV} {x : Id4} (hd : decode cc pc = .ok (.aload_n 1, 1)) (k : AW X K (pc + 1) (a0 :: aR x :: r) (aR x :: st) (M, Rf) u Q) : AW X K pc (a0 :: aR x :: r) (st) (M, Rf) u Q := by
  obtain ⟨p, l, e, R, s, m, args, below, meth, c⟩ := X
  obtain ⟨g, cy, A, nL, ρ, L⟩ := K
  obtain ⟨hx, hb, hml, hown, hts, hK, hnd, hD, hA, hlk, hret, hR, htr, hZ, hE⟩ := F
  obtain ⟨hE1, rfl⟩ := hE
  intro H locs ls hP hS hl
  exact lv_aload_n hx hb hd rfl (hl.2.2 1 (aR x) rfl rfl) (k H locs ls hP hS hl)
theorem aw_astore1 (F : Fx X K cc own ret d U tb) {a0 : AV} {r : List AV} {x : Id4} {w : AV} (hd : decode cc pc = .ok (.astore_n 1, 1)) (hw : (a0 :: w :: r).all (fun v => !wide v) = true) (hn : (a0 :: w :: r).length = K.2.2.2.1) (k : AW X K (pc + 1) (a0 :: aR x :: r) (st) (M, Rf) u Q) : AW X K pc (a0 :: w :: r) (aR x :: st) (M, Rf) u Q := by
  obtain ⟨p, l, e, R, s, m, args, below, meth, c⟩ := X
  obtain ⟨g, cy, A, nL, ρ, L⟩ := K
  obtain ⟨hx, hb, hml, hown, hts, hK, hnd, hD, hA, hlk, hret, hR, htr, hZ, hE⟩ := F
  obtain ⟨hE1, rfl⟩ := hE
  intro H locs ls hP hS hl
  have hn9 : _ = nL := hn
  refine lv_astore_n (i := 1) hx hb hd rfl (lh_as hl) (by rw [← hn9]; simp only [List.length_cons]; omega) rfl (fun ls' h' => ?_)
  exact k H locs ls' hP hS (lh_set (i := 1) (v := aR x) hl hw (by simp only [List.length_cons]; omega) h')
theorem aw_iinc1 (F : Fx X K cc own ret d U tb) {a0 : AV} {r : List AV} {x n : Int} (hd : decode cc pc = .ok (.iinc 1 n, 3)) (hw : (a0 :: aI x :: r).all (fun v => !wide v) = true) (hn : (a0 :: aI x :: r).length = K.2.2.2.1) (k : AW X K (pc + 3) (a0 :: aI (x + n) :: r) (st) (M, Rf) u Q) : AW X K pc (a0 :: aI x :: r) (st) (M, Rf) u Q := by
  obtain ⟨p, l, e, R, s, m, args, below, meth, c⟩ := X
  obtain ⟨g, cy, A, nL, ρ, L⟩ := K
  obtain ⟨hx, hb, hml, hown, hts, hK, hnd, hD, hA, hlk, hret, hR, htr, hZ, hE⟩ := F
  obtain ⟨hE1, rfl⟩ := hE
  intro H locs ls hP hS hl
  obtain ⟨j, hj⟩ := lh_mem (i := 1) (v := aI x) hl rfl rfl
  have hn9 : _ = nL := hn
  refine lv_iinc hx hb hd (lh_as hl) hj (v := Int32.ofInt (x + n)) (Int32.ofInt_add x n).symm (by rw [← hn9]; simp only [List.length_cons]; omega) rfl (fun ls' h' => ?_)
  exact k H locs ls' hP hS (lh_set (i := 1) (v := aI (x + n)) hl hw (by simp only [List.length_cons]; omega) h')
theorem aw_iload2 (F : Fx X K cc own ret d U tb) {a0 a1 : AV} {r : List AV} {x : Int} (hd : decode cc pc = .ok (.iload_n 2, 1)) (k : AW X K (pc + 1) (a0 :: a1 :: aI x :: r) (aI x :: st) (M, Rf) u Q) : AW X K pc (a0 :: a1 :: aI x :: r) (st) (M, Rf) u Q := by
  obtain ⟨p, l, e, R, s, m, args, below, meth, c⟩ := X
  obtain ⟨g, cy, A, nL, ρ, L⟩ := K
  obtain ⟨hx, hb, hml, hown, hts, hK, hnd, hD, hA, hlk, hret, hR, htr, hZ, hE⟩ := F
  obtain ⟨hE1, rfl⟩ := hE
  intro H locs ls hP hS hl
  exact lv_iload_n hx hb hd rfl (hl.2.2 2 (aI x) rfl rfl) (k H locs ls hP hS hl)
theorem aw_istore2 (F : Fx X K cc own ret d U tb) {a0 a1 : AV} {r : List AV} {x : Int} {w : AV} (hd : decode cc pc = .ok (.istore_n 2, 1)) (hw : (a0 :: a1 :: w :: r).all (fun v => !wide v) = true) (hn : (a0 :: a1 :: w :: r).length = K.2.2.2.1) (k : AW X K (pc + 1) (a0 :: a1 :: aI x :: r) (st) (M, Rf) u Q) : AW X K pc (a0 :: a1 :: w :: r) (aI x :: st) (M, Rf) u Q := by
  obtain ⟨p, l, e, R, s, m, args, below, meth, c⟩ := X
  obtain ⟨g, cy, A, nL, ρ, L⟩ := K
  obtain ⟨hx, hb, hml, hown, hts, hK, hnd, hD, hA, hlk, hret, hR, htr, hZ, hE⟩ := F
  obtain ⟨hE1, rfl⟩ := hE
  intro H locs ls hP hS hl
  have hn9 : _ = nL := hn
  refine lv_istore_n (i := 2) hx hb hd rfl (lh_as hl) (by rw [← hn9]; simp only [List.length_cons]; omega) rfl (fun ls' h' => ?_)
  exact k H locs ls' hP hS (lh_set (i := 2) (v := aI x) hl hw (by simp only [List.length_cons]; omega) h')
theorem aw_aload2 (F : Fx X K cc own ret d U tb) {a0 a1 : AV} {r : List AV} {x : Id4} (hd : decode cc pc = .ok (.aload_n 2, 1)) (k : AW X K (pc + 1) (a0 :: a1 :: aR x :: r) (aR x :: st) (M, Rf) u Q) : AW X K pc (a0 :: a1 :: aR x :: r) (st) (M, Rf) u Q := by
  obtain ⟨p, l, e, R, s, m, args, below, meth, c⟩ := X
  obtain ⟨g, cy, A, nL, ρ, L⟩ := K
  obtain ⟨hx, hb, hml, hown, hts, hK, hnd, hD, hA, hlk, hret, hR, htr, hZ, hE⟩ := F
  obtain ⟨hE1, rfl⟩ := hE
  intro H locs ls hP hS hl
  exact lv_aload_n hx hb hd rfl (hl.2.2 2 (aR x) rfl rfl) (k H locs ls hP hS hl)
theorem aw_astore2 (F : Fx X K cc own ret d U tb) {a0 a1 : AV} {r : List AV} {x : Id4} {w : AV} (hd : decode cc pc = .ok (.astore_n 2, 1)) (hw : (a0 :: a1 :: w :: r).all (fun v => !wide v) = true) (hn : (a0 :: a1 :: w :: r).length = K.2.2.2.1) (k : AW X K (pc + 1) (a0 :: a1 :: aR x :: r) (st) (M, Rf) u Q) : AW X K pc (a0 :: a1 :: w :: r) (aR x :: st) (M, Rf) u Q := by
  obtain ⟨p, l, e, R, s, m, args, below, meth, c⟩ := X
  obtain ⟨g, cy, A, nL, ρ, L⟩ := K
  obtain ⟨hx, hb, hml, hown, hts, hK, hnd, hD, hA, hlk, hret, hR, htr, hZ, hE⟩ := F
  obtain ⟨hE1, rfl⟩ := hE
  intro H locs ls hP hS hl
  have hn9 : _ = nL := hn
  refine lv_astore_n (i := 2) hx hb hd rfl (lh_as hl) (by rw [← hn9]; simp only [List.length_cons]; omega) rfl (fun ls' h' => ?_)
  exact k H locs ls' hP hS (lh_set (i := 2) (v := aR x) hl hw (by simp only [List.length_cons]; omega) h')
theorem aw_iinc2 (F : Fx X K cc own ret d U tb) {a0 a1 : AV} {r : List AV} {x n : Int} (hd : decode cc pc = .ok (.iinc 2 n, 3)) (hw : (a0 :: a1 :: aI x :: r).all (fun v => !wide v) = true) (hn : (a0 :: a1 :: aI x :: r).length = K.2.2.2.1) (k : AW X K (pc + 3) (a0 :: a1 :: aI (x + n) :: r) (st) (M, Rf) u Q) : AW X K pc (a0 :: a1 :: aI x :: r) (st) (M, Rf) u Q := by
  obtain ⟨p, l, e, R, s, m, args, below, meth, c⟩ := X
  obtain ⟨g, cy, A, nL, ρ, L⟩ := K
  obtain ⟨hx, hb, hml, hown, hts, hK, hnd, hD, hA, hlk, hret, hR, htr, hZ, hE⟩ := F
  obtain ⟨hE1, rfl⟩ := hE
  intro H locs ls hP hS hl
  obtain ⟨j, hj⟩ := lh_mem (i := 2) (v := aI x) hl rfl rfl
  have hn9 : _ = nL := hn
  refine lv_iinc hx hb hd (lh_as hl) hj (v := Int32.ofInt (x + n)) (Int32.ofInt_add x n).symm (by rw [← hn9]; simp only [List.length_cons]; omega) rfl (fun ls' h' => ?_)
  exact k H locs ls' hP hS (lh_set (i := 2) (v := aI (x + n)) hl hw (by simp only [List.length_cons]; omega) h')
theorem aw_iload3 (F : Fx X K cc own ret d U tb) {a0 a1 a2 : AV} {r : List AV} {x : Int} (hd : decode cc pc = .ok (.iload_n 3, 1)) (k : AW X K (pc + 1) (a0 :: a1 :: a2 :: aI x :: r) (aI x :: st) (M, Rf) u Q) : AW X K pc (a0 :: a1 :: a2 :: aI x :: r) (st) (M, Rf) u Q := by
  obtain ⟨p, l, e, R, s, m, args, below, meth, c⟩ := X
  obtain ⟨g, cy, A, nL, ρ, L⟩ := K
  obtain ⟨hx, hb, hml, hown, hts, hK, hnd, hD, hA, hlk, hret, hR, htr, hZ, hE⟩ := F
  obtain ⟨hE1, rfl⟩ := hE
  intro H locs ls hP hS hl
  exact lv_iload_n hx hb hd rfl (hl.2.2 3 (aI x) rfl rfl) (k H locs ls hP hS hl)
theorem aw_istore3 (F : Fx X K cc own ret d U tb) {a0 a1 a2 : AV} {r : List AV} {x : Int} {w : AV} (hd : decode cc pc = .ok (.istore_n 3, 1)) (hw : (a0 :: a1 :: a2 :: w :: r).all (fun v => !wide v) = true) (hn : (a0 :: a1 :: a2 :: w :: r).length = K.2.2.2.1) (k : AW X K (pc + 1) (a0 :: a1 :: a2 :: aI x :: r) (st) (M, Rf) u Q) : AW X K pc (a0 :: a1 :: a2 :: w :: r) (aI x :: st) (M, Rf) u Q := by
  obtain ⟨p, l, e, R, s, m, args, below, meth, c⟩ := X
  obtain ⟨g, cy, A, nL, ρ, L⟩ := K
  obtain ⟨hx, hb, hml, hown, hts, hK, hnd, hD, hA, hlk, hret, hR, htr, hZ, hE⟩ := F
  obtain ⟨hE1, rfl⟩ := hE
  intro H locs ls hP hS hl
  have hn9 : _ = nL := hn
  refine lv_istore_n (i := 3) hx hb hd rfl (lh_as hl) (by rw [← hn9]; simp only [List.length_cons]; omega) rfl (fun ls' h' => ?_)
  exact k H locs ls' hP hS (lh_set (i := 3) (v := aI x) hl hw (by simp only [List.length_cons]; omega) h')
theorem aw_aload3 (F : Fx X K cc own ret d U tb) {a0 a1 a2 : AV} {r : List AV} {x : Id4} (hd : decode cc pc = .ok (.aload_n 3, 1)) (k : AW X K (pc + 1) (a0 :: a1 :: a2 :: aR x :: r) (aR x :: st) (M, Rf) u Q) : AW X K pc (a0 :: a1 :: a2 :: aR x :: r) (st) (M, Rf) u Q := by
  obtain ⟨p, l, e, R, s, m, args, below, meth, c⟩ := X
  obtain ⟨g, cy, A, nL, ρ, L⟩ := K
  obtain ⟨hx, hb, hml, hown, hts, hK, hnd, hD, hA, hlk, hret, hR, htr, hZ, hE⟩ := F
  obtain ⟨hE1, rfl⟩ := hE
  intro H locs ls hP hS hl
  exact lv_aload_n hx hb hd rfl (hl.2.2 3 (aR x) rfl rfl) (k H locs ls hP hS hl)
theorem aw_astore3 (F : Fx X K cc own ret d U tb) {a0 a1 a2 : AV} {r : List AV} {x : Id4} {w : AV} (hd : decode cc pc = .ok (.astore_n 3, 1)) (hw : (a0 :: a1 :: a2 :: w :: r).all (fun v => !wide v) = true) (hn : (a0 :: a1 :: a2 :: w :: r).length = K.2.2.2.1) (k : AW X K (pc + 1) (a0 :: a1 :: a2 :: aR x :: r) (st) (M, Rf) u Q) : AW X K pc (a0 :: a1 :: a2 :: w :: r) (aR x :: st) (M, Rf) u Q := by
  obtain ⟨p, l, e, R, s, m, args, below, meth, c⟩ := X
  obtain ⟨g, cy, A, nL, ρ, L⟩ := K
  obtain ⟨hx, hb, hml, hown, hts, hK, hnd, hD, hA, hlk, hret, hR, htr, hZ, hE⟩ := F
  obtain ⟨hE1, rfl⟩ := hE
  intro H locs ls hP hS hl
  have hn9 : _ = nL := hn
  refine lv_astore_n (i := 3) hx hb hd rfl (lh_as hl) (by rw [← hn9]; simp only [List.length_cons]; omega) rfl (fun ls' h' => ?_)
  exact k H locs ls' hP hS (lh_set (i := 3) (v := aR x) hl hw (by simp only [List.length_cons]; omega) h')
theorem aw_iinc3 (F : Fx X K cc own ret d U tb) {a0 a1 a2 : AV} {r : List AV} {x n : Int} (hd : decode cc pc = .ok (.iinc 3 n, 3)) (hw : (a0 :: a1 :: a2 :: aI x :: r).all (fun v => !wide v) = true) (hn : (a0 :: a1 :: a2 :: aI x :: r).length = K.2.2.2.1) (k : AW X K (pc + 3) (a0 :: a1 :: a2 :: aI (x + n) :: r) (st) (M, Rf) u Q) : AW X K pc (a0 :: a1 :: a2 :: aI x :: r) (st) (M, Rf) u Q := by
  obtain ⟨p, l, e, R, s, m, args, below, meth, c⟩ := X
  obtain ⟨g, cy, A, nL, ρ, L⟩ := K
  obtain ⟨hx, hb, hml, hown, hts, hK, hnd, hD, hA, hlk, hret, hR, htr, hZ, hE⟩ := F
  obtain ⟨hE1, rfl⟩ := hE
  intro H locs ls hP hS hl
  obtain ⟨j, hj⟩ := lh_mem (i := 3) (v := aI x) hl rfl rfl
  have hn9 : _ = nL := hn
  refine lv_iinc hx hb hd (lh_as hl) hj (v := Int32.ofInt (x + n)) (Int32.ofInt_add x n).symm (by rw [← hn9]; simp only [List.length_cons]; omega) rfl (fun ls' h' => ?_)
  exact k H locs ls' hP hS (lh_set (i := 3) (v := aI (x + n)) hl hw (by simp only [List.length_cons]; omega) h')
theorem aw_iload4 (F : Fx X K cc own ret d U tb) {a0 a1 a2 a3 : AV} {r : List AV} {x : Int} (hd : decode cc pc = .ok (.iload 4, 2)) (k : AW X K (pc + 2) (a0 :: a1 :: a2 :: a3 :: aI x :: r) (aI x :: st) (M, Rf) u Q) : AW X K pc (a0 :: a1 :: a2 :: a3 :: aI x :: r) (st) (M, Rf) u Q := by
  obtain ⟨p, l, e, R, s, m, args, below, meth, c⟩ := X
  obtain ⟨g, cy, A, nL, ρ, L⟩ := K
  obtain ⟨hx, hb, hml, hown, hts, hK, hnd, hD, hA, hlk, hret, hR, htr, hZ, hE⟩ := F
  obtain ⟨hE1, rfl⟩ := hE
  intro H locs ls hP hS hl
  exact lv_iload hx hb hd (hl.2.2 4 (aI x) rfl rfl) (k H locs ls hP hS hl)
theorem aw_istore4 (F : Fx X K cc own ret d U tb) {a0 a1 a2 a3 : AV} {r : List AV} {x : Int} {w : AV} (hd : decode cc pc = .ok (.istore 4, 2)) (hw : (a0 :: a1 :: a2 :: a3 :: w :: r).all (fun v => !wide v) = true) (hn : (a0 :: a1 :: a2 :: a3 :: w :: r).length = K.2.2.2.1) (k : AW X K (pc + 2) (a0 :: a1 :: a2 :: a3 :: aI x :: r) (st) (M, Rf) u Q) : AW X K pc (a0 :: a1 :: a2 :: a3 :: w :: r) (aI x :: st) (M, Rf) u Q := by
  obtain ⟨p, l, e, R, s, m, args, below, meth, c⟩ := X
  obtain ⟨g, cy, A, nL, ρ, L⟩ := K
  obtain ⟨hx, hb, hml, hown, hts, hK, hnd, hD, hA, hlk, hret, hR, htr, hZ, hE⟩ := F
  obtain ⟨hE1, rfl⟩ := hE
  intro H locs ls hP hS hl
  have hn9 : _ = nL := hn
  refine lv_istore hx hb hd (lh_as hl) (by rw [← hn9]; simp only [List.length_cons]; omega) rfl (fun ls' h' => ?_)
  exact k H locs ls' hP hS (lh_set (i := 4) (v := aI x) hl hw (by simp only [List.length_cons]; omega) h')
theorem aw_aload4 (F : Fx X K cc own ret d U tb) {a0 a1 a2 a3 : AV} {r : List AV} {x : Id4} (hd : decode cc pc = .ok (.aload 4, 2)) (k : AW X K (pc + 2) (a0 :: a1 :: a2 :: a3 :: aR x :: r) (aR x :: st) (M, Rf) u Q) : AW X K pc (a0 :: a1 :: a2 :: a3 :: aR x :: r) (st) (M, Rf) u Q := by
  obtain ⟨p, l, e, R, s, m, args, below, meth, c⟩ := X
  obtain ⟨g, cy, A, nL, ρ, L⟩ := K
  obtain ⟨hx, hb, hml, hown, hts, hK, hnd, hD, hA, hlk, hret, hR, htr, hZ, hE⟩ := F
  obtain ⟨hE1, rfl⟩ := hE
  intro H locs ls hP hS hl
  exact lv_aload hx hb hd (hl.2.2 4 (aR x) rfl rfl) (k H locs ls hP hS hl)
theorem aw_astore4 (F : Fx X K cc own ret d U tb) {a0 a1 a2 a3 : AV} {r : List AV} {x : Id4} {w : AV} (hd : decode cc pc = .ok (.astore 4, 2)) (hw : (a0 :: a1 :: a2 :: a3 :: w :: r).all (fun v => !wide v) = true) (hn : (a0 :: a1 :: a2 :: a3 :: w :: r).length = K.2.2.2.1) (k : AW X K (pc + 2) (a0 :: a1 :: a2 :: a3 :: aR x :: r) (st) (M, Rf) u Q) : AW X K pc (a0 :: a1 :: a2 :: a3 :: w :: r) (aR x :: st) (M, Rf) u Q := by
  obtain ⟨p, l, e, R, s, m, args, below, meth, c⟩ := X
  obtain ⟨g, cy, A, nL, ρ, L⟩ := K
  obtain ⟨hx, hb, hml, hown, hts, hK, hnd, hD, hA, hlk, hret, hR, htr, hZ, hE⟩ := F
  obtain ⟨hE1, rfl⟩ := hE
  intro H locs ls hP hS hl
  have hn9 : _ = nL := hn
  refine lv_astore hx hb hd (lh_as hl) (by rw [← hn9]; simp only [List.length_cons]; omega) rfl (fun ls' h' => ?_)
  exact k H locs ls' hP hS (lh_set (i := 4) (v := aR x) hl hw (by simp only [List.length_cons]; omega) h')
theorem aw_iinc4 (F : Fx X K cc own ret d U tb) {a0 a1 a2 a3 : AV} {r : List AV} {x n : Int} (hd : decode cc pc = .ok (.iinc 4 n, 3)) (hw : (a0 :: a1 :: a2 :: a3 :: aI x :: r).all (fun v => !wide v) = true) (hn : (a0 :: a1 :: a2 :: a3 :: aI x :: r).length = K.2.2.2.1) (k : AW X K (pc + 3) (a0 :: a1 :: a2 :: a3 :: aI (x + n) :: r) (st) (M, Rf) u Q) : AW X K pc (a0 :: a1 :: a2 :: a3 :: aI x :: r) (st) (M, Rf) u Q := by
  obtain ⟨p, l, e, R, s, m, args, below, meth, c⟩ := X
  obtain ⟨g, cy, A, nL, ρ, L⟩ := K
  obtain ⟨hx, hb, hml, hown, hts, hK, hnd, hD, hA, hlk, hret, hR, htr, hZ, hE⟩ := F
  obtain ⟨hE1, rfl⟩ := hE
  intro H locs ls hP hS hl
  obtain ⟨j, hj⟩ := lh_mem (i := 4) (v := aI x) hl rfl rfl
  have hn9 : _ = nL := hn
  refine lv_iinc hx hb hd (lh_as hl) hj (v := Int32.ofInt (x + n)) (Int32.ofInt_add x n).symm (by rw [← hn9]; simp only [List.length_cons]; omega) rfl (fun ls' h' => ?_)
  exact k H locs ls' hP hS (lh_set (i := 4) (v := aI (x + n)) hl hw (by simp only [List.length_cons]; omega) h')
theorem aw_iload5 (F : Fx X K cc own ret d U tb) {a0 a1 a2 a3 a4 : AV} {r : List AV} {x : Int} (hd : decode cc pc = .ok (.iload 5, 2)) (k : AW X K (pc + 2) (a0 :: a1 :: a2 :: a3 :: a4 :: aI x :: r) (aI x :: st) (M, Rf) u Q) : AW X K pc (a0 :: a1 :: a2 :: a3 :: a4 :: aI x :: r) (st) (M, Rf) u Q := by
  obtain ⟨p, l, e, R, s, m, args, below, meth, c⟩ := X
  obtain ⟨g, cy, A, nL, ρ, L⟩ := K
  obtain ⟨hx, hb, hml, hown, hts, hK, hnd, hD, hA, hlk, hret, hR, htr, hZ, hE⟩ := F
  obtain ⟨hE1, rfl⟩ := hE
  intro H locs ls hP hS hl
  exact lv_iload hx hb hd (hl.2.2 5 (aI x) rfl rfl) (k H locs ls hP hS hl)
theorem aw_istore5 (F : Fx X K cc own ret d U tb) {a0 a1 a2 a3 a4 : AV} {r : List AV} {x : Int} {w : AV} (hd : decode cc pc = .ok (.istore 5, 2)) (hw : (a0 :: a1 :: a2 :: a3 :: a4 :: w :: r).all (fun v => !wide v) = true) (hn : (a0 :: a1 :: a2 :: a3 :: a4 :: w :: r).length = K.2.2.2.1) (k : AW X K (pc + 2) (a0 :: a1 :: a2 :: a3 :: a4 :: aI x :: r) (st) (M, Rf) u Q) : AW X K pc (a0 :: a1 :: a2 :: a3 :: a4 :: w :: r) (aI x :: st) (M, Rf) u Q := by
  obtain ⟨p, l, e, R, s, m, args, below, meth, c⟩ := X
  obtain ⟨g, cy, A, nL, ρ, L⟩ := K
  obtain ⟨hx, hb, hml, hown, hts, hK, hnd, hD, hA, hlk, hret, hR, htr, hZ, hE⟩ := F
  obtain ⟨hE1, rfl⟩ := hE
  intro H locs ls hP hS hl
  have hn9 : _ = nL := hn
  refine lv_istore hx hb hd (lh_as hl) (by rw [← hn9]; simp only [List.length_cons]; omega) rfl (fun ls' h' => ?_)
  exact k H locs ls' hP hS (lh_set (i := 5) (v := aI x) hl hw (by simp only [List.length_cons]; omega) h')
theorem aw_aload5 (F : Fx X K cc own ret d U tb) {a0 a1 a2 a3 a4 : AV} {r : List AV} {x : Id4} (hd : decode cc pc = .ok (.aload 5, 2)) (k : AW X K (pc + 2) (a0 :: a1 :: a2 :: a3 :: a4 :: aR x :: r) (aR x :: st) (M, Rf) u Q) : AW X K pc (a0 :: a1 :: a2 :: a3 :: a4 :: aR x :: r) (st) (M, Rf) u Q := by
  obtain ⟨p, l, e, R, s, m, args, below, meth, c⟩ := X
  obtain ⟨g, cy, A, nL, ρ, L⟩ := K
  obtain ⟨hx, hb, hml, hown, hts, hK, hnd, hD, hA, hlk, hret, hR, htr, hZ, hE⟩ := F
  obtain ⟨hE1, rfl⟩ := hE
  intro H locs ls hP hS hl
  exact lv_aload hx hb hd (hl.2.2 5 (aR x) rfl rfl) (k H locs ls hP hS hl)
theorem aw_astore5 (F : Fx X K cc own ret d U tb) {a0 a1 a2 a3 a4 : AV} {r : List AV} {x : Id4} {w : AV} (hd : decode cc pc = .ok (.astore 5, 2)) (hw : (a0 :: a1 :: a2 :: a3 :: a4 :: w :: r).all (fun v => !wide v) = true) (hn : (a0 :: a1 :: a2 :: a3 :: a4 :: w :: r).length = K.2.2.2.1) (k : AW X K (pc + 2) (a0 :: a1 :: a2 :: a3 :: a4 :: aR x :: r) (st) (M, Rf) u Q) : AW X K pc (a0 :: a1 :: a2 :: a3 :: a4 :: w :: r) (aR x :: st) (M, Rf) u Q := by
  obtain ⟨p, l, e, R, s, m, args, below, meth, c⟩ := X
  obtain ⟨g, cy, A, nL, ρ, L⟩ := K
  obtain ⟨hx, hb, hml, hown, hts, hK, hnd, hD, hA, hlk, hret, hR, htr, hZ, hE⟩ := F
  obtain ⟨hE1, rfl⟩ := hE
  intro H locs ls hP hS hl
  have hn9 : _ = nL := hn
  refine lv_astore hx hb hd (lh_as hl) (by rw [← hn9]; simp only [List.length_cons]; omega) rfl (fun ls' h' => ?_)
  exact k H locs ls' hP hS (lh_set (i := 5) (v := aR x) hl hw (by simp only [List.length_cons]; omega) h')
theorem aw_iinc5 (F : Fx X K cc own ret d U tb) {a0 a1 a2 a3 a4 : AV} {r : List AV} {x n : Int} (hd : decode cc pc = .ok (.iinc 5 n, 3)) (hw : (a0 :: a1 :: a2 :: a3 :: a4 :: aI x :: r).all (fun v => !wide v) = true) (hn : (a0 :: a1 :: a2 :: a3 :: a4 :: aI x :: r).length = K.2.2.2.1) (k : AW X K (pc + 3) (a0 :: a1 :: a2 :: a3 :: a4 :: aI (x + n) :: r) (st) (M, Rf) u Q) : AW X K pc (a0 :: a1 :: a2 :: a3 :: a4 :: aI x :: r) (st) (M, Rf) u Q := by
  obtain ⟨p, l, e, R, s, m, args, below, meth, c⟩ := X
  obtain ⟨g, cy, A, nL, ρ, L⟩ := K
  obtain ⟨hx, hb, hml, hown, hts, hK, hnd, hD, hA, hlk, hret, hR, htr, hZ, hE⟩ := F
  obtain ⟨hE1, rfl⟩ := hE
  intro H locs ls hP hS hl
  obtain ⟨j, hj⟩ := lh_mem (i := 5) (v := aI x) hl rfl rfl
  have hn9 : _ = nL := hn
  refine lv_iinc hx hb hd (lh_as hl) hj (v := Int32.ofInt (x + n)) (Int32.ofInt_add x n).symm (by rw [← hn9]; simp only [List.length_cons]; omega) rfl (fun ls' h' => ?_)
  exact k H locs ls' hP hS (lh_set (i := 5) (v := aI (x + n)) hl hw (by simp only [List.length_cons]; omega) h')
theorem aw_iload6 (F : Fx X K cc own ret d U tb) {a0 a1 a2 a3 a4 a5 : AV} {r : List AV} {x : Int} (hd : decode cc pc = .ok (.iload 6, 2)) (k : AW X K (pc + 2) (a0 :: a1 :: a2 :: a3 :: a4 :: a5 :: aI x :: r) (aI x :: st) (M, Rf) u Q) : AW X K pc (a0 :: a1 :: a2 :: a3 :: a4 :: a5 :: aI x :: r) (st) (M, Rf) u Q := by
  obtain ⟨p, l, e, R, s, m, args, below, meth, c⟩ := X
  obtain ⟨g, cy, A, nL, ρ, L⟩ := K
  obtain ⟨hx, hb, hml, hown, hts, hK, hnd, hD, hA, hlk, hret, hR, htr, hZ, hE⟩ := F
  obtain ⟨hE1, rfl⟩ := hE
  intro H locs ls hP hS hl
  exact lv_iload hx hb hd (hl.2.2 6 (aI x) rfl rfl) (k H locs ls hP hS hl)
theorem aw_istore6 (F : Fx X K cc own ret d U tb) {a0 a1 a2 a3 a4 a5 : AV} {r : List AV} {x : Int} {w : AV} (hd : decode cc pc = .ok (.istore 6, 2)) (hw : (a0 :: a1 :: a2 :: a3 :: a4 :: a5 :: w :: r).all (fun v => !wide v) = true) (hn : (a0 :: a1 :: a2 :: a3 :: a4 :: a5 :: w :: r).length = K.2.2.2.1) (k : AW X K (pc + 2) (a0 :: a1 :: a2 :: a3 :: a4 :: a5 :: aI x :: r) (st) (M, Rf) u Q) : AW X K pc (a0 :: a1 :: a2 :: a3 :: a4 :: a5 :: w :: r) (aI x :: st) (M, Rf) u Q := by
  obtain ⟨p, l, e, R, s, m, args, below, meth, c⟩ := X
  obtain ⟨g, cy, A, nL, ρ, L⟩ := K
  obtain ⟨hx, hb, hml, hown, hts, hK, hnd, hD, hA, hlk, hret, hR, htr, hZ, hE⟩ := F
  obtain ⟨hE1, rfl⟩ := hE
  intro H locs ls hP hS hl
  have hn9 : _ = nL := hn
  refine lv_istore hx hb hd (lh_as hl) (by rw [← hn9]; simp only [List.length_cons]; omega) rfl (fun ls' h' => ?_)
  exact k H locs ls' hP hS (lh_set (i := 6) (v := aI x) hl hw (by simp only [List.length_cons]; omega) h')
theorem aw_aload6 (F : Fx X K cc own ret d U tb) {a0 a1 a2 a3 a4 a5 : AV} {r : List AV} {x : Id4} (hd : decode cc pc = .ok (.aload 6, 2)) (k : AW X K (pc + 2) (a0 :: a1 :: a2 :: a3 :: a4 :: a5 :: aR x :: r) (aR x :: st) (M, Rf) u Q) : AW X K pc (a0 :: a1 :: a2 :: a3 :: a4 :: a5 :: aR x :: r) (st) (M, Rf) u Q := by
  obtain ⟨p, l, e, R, s, m, args, below, meth, c⟩ := X
  obtain ⟨g, cy, A, nL, ρ, L⟩ := K
  obtain ⟨hx, hb, hml, hown, hts, hK, hnd, hD, hA, hlk, hret, hR, htr, hZ, hE⟩ := F
  obtain ⟨hE1, rfl⟩ := hE
  intro H locs ls hP hS hl
  exact lv_aload hx hb hd (hl.2.2 6 (aR x) rfl rfl) (k H locs ls hP hS hl)
theorem aw_astore6 (F : Fx X K cc own ret d U tb) {a0 a1 a2 a3 a4 a5 : AV} {r : List AV} {x : Id4} {w : AV} (hd : decode cc pc = .ok (.astore 6, 2)) (hw : (a0 :: a1 :: a2 :: a3 :: a4 :: a5 :: w :: r).all (fun v => !wide v) = true) (hn : (a0 :: a1 :: a2 :: a3 :: a4 :: a5 :: w :: r).length = K.2.2.2.1) (k : AW X K (pc + 2) (a0 :: a1 :: a2 :: a3 :: a4 :: a5 :: aR x :: r) (st) (M, Rf) u Q) : AW X K pc (a0 :: a1 :: a2 :: a3 :: a4 :: a5 :: w :: r) (aR x :: st) (M, Rf) u Q := by
  obtain ⟨p, l, e, R, s, m, args, below, meth, c⟩ := X
  obtain ⟨g, cy, A, nL, ρ, L⟩ := K
  obtain ⟨hx, hb, hml, hown, hts, hK, hnd, hD, hA, hlk, hret, hR, htr, hZ, hE⟩ := F
  obtain ⟨hE1, rfl⟩ := hE
  intro H locs ls hP hS hl
  have hn9 : _ = nL := hn
  refine lv_astore hx hb hd (lh_as hl) (by rw [← hn9]; simp only [List.length_cons]; omega) rfl (fun ls' h' => ?_)
  exact k H locs ls' hP hS (lh_set (i := 6) (v := aR x) hl hw (by simp only [List.length_cons]; omega) h')
theorem aw_iinc6 (F : Fx X K cc own ret d U tb) {a0 a1 a2 a3 a4 a5 : AV} {r : List AV} {x n : Int} (hd : decode cc pc = .ok (.iinc 6 n, 3)) (hw : (a0 :: a1 :: a2 :: a3 :: a4 :: a5 :: aI x :: r).all (fun v => !wide v) = true) (hn : (a0 :: a1 :: a2 :: a3 :: a4 :: a5 :: aI x :: r).length = K.2.2.2.1) (k : AW X K (pc + 3) (a0 :: a1 :: a2 :: a3 :: a4 :: a5 :: aI (x + n) :: r) (st) (M, Rf) u Q) : AW X K pc (a0 :: a1 :: a2 :: a3 :: a4 :: a5 :: aI x :: r) (st) (M, Rf) u Q := by
  obtain ⟨p, l, e, R, s, m, args, below, meth, c⟩ := X
  obtain ⟨g, cy, A, nL, ρ, L⟩ := K
  obtain ⟨hx, hb, hml, hown, hts, hK, hnd, hD, hA, hlk, hret, hR, htr, hZ, hE⟩ := F
  obtain ⟨hE1, rfl⟩ := hE
  intro H locs ls hP hS hl
  obtain ⟨j, hj⟩ := lh_mem (i := 6) (v := aI x) hl rfl rfl
  have hn9 : _ = nL := hn
  refine lv_iinc hx hb hd (lh_as hl) hj (v := Int32.ofInt (x + n)) (Int32.ofInt_add x n).symm (by rw [← hn9]; simp only [List.length_cons]; omega) rfl (fun ls' h' => ?_)
  exact k H locs ls' hP hS (lh_set (i := 6) (v := aI (x + n)) hl hw (by simp only [List.length_cons]; omega) h')
theorem aw_iload7 (F : Fx X K cc own ret d U tb) {a0 a1 a2 a3 a4 a5 a6 : AV} {r : List AV} {x : Int} (hd : decode cc pc = .ok (.iload 7, 2)) (k : AW X K (pc + 2) (a0 :: a1 :: a2 :: a3 :: a4 :: a5 :: a6 :: aI x :: r) (aI x :: st) (M, Rf) u Q) : AW X K pc (a0 :: a1 :: a2 :: a3 :: a4 :: a5 :: a6 :: aI x :: r) (st) (M, Rf) u Q := by
  obtain ⟨p, l, e, R, s, m, args, below, meth, c⟩ := X
  obtain ⟨g, cy, A, nL, ρ, L⟩ := K
  obtain ⟨hx, hb, hml, hown, hts, hK, hnd, hD, hA, hlk, hret, hR, htr, hZ, hE⟩ := F
  obtain ⟨hE1, rfl⟩ := hE
  intro H locs ls hP hS hl
  exact lv_iload hx hb hd (hl.2.2 7 (aI x) rfl rfl) (k H locs ls hP hS hl)
theorem aw_istore7 (F : Fx X K cc own ret d U tb) {a0 a1 a2 a3 a4 a5 a6 : AV} {r : List AV} {x : Int} {w : AV} (hd : decode cc pc = .ok (.istore 7, 2)) (hw : (a0 :: a1 :: a2 :: a3 :: a4 :: a5 :: a6 :: w :: r).all (fun v => !wide v) = true) (hn : (a0 :: a1 :: a2 :: a3 :: a4 :: a5 :: a6 :: w :: r).length = K.2.2.2.1) (k : AW X K (pc + 2) (a0 :: a1 :: a2 :: a3 :: a4 :: a5 :: a6 :: aI x :: r) (st) (M, Rf) u Q) : AW X K pc (a0 :: a1 :: a2 :: a3 :: a4 :: a5 :: a6 :: w :: r) (aI x :: st) (M, Rf) u Q := by
  obtain ⟨p, l, e, R, s, m, args, below, meth, c⟩ := X
  obtain ⟨g, cy, A, nL, ρ, L⟩ := K
  obtain ⟨hx, hb, hml, hown, hts, hK, hnd, hD, hA, hlk, hret, hR, htr, hZ, hE⟩ := F
  obtain ⟨hE1, rfl⟩ := hE
  intro H locs ls hP hS hl
  have hn9 : _ = nL := hn
  refine lv_istore hx hb hd (lh_as hl) (by rw [← hn9]; simp only [List.length_cons]; omega) rfl (fun ls' h' => ?_)
  exact k H locs ls' hP hS (lh_set (i := 7) (v := aI x) hl hw (by simp only [List.length_cons]; omega) h')
theorem aw_aload7 (F : Fx X K cc own ret d U tb) {a0 a1 a2 a3 a4 a5 a6 : AV} {r : List AV} {x : Id4} (hd : decode cc pc = .ok (.aload 7, 2)) (k : AW X K (pc + 2) (a0 :: a1 :: a2 :: a3 :: a4 :: a5 :: a6 :: aR x :: r) (aR x :: st) (M, Rf) u Q) : AW X K pc (a0 :: a1 :: a2 :: a3 :: a4 :: a5 :: a6 :: aR x :: r) (st) (M, Rf) u Q := by
  obtain ⟨p, l, e, R, s, m, args, below, meth, c⟩ := X
  obtain ⟨g, cy, A, nL, ρ, L⟩ := K
  obtain ⟨hx, hb, hml, hown, hts, hK, hnd, hD, hA, hlk, hret, hR, htr, hZ, hE⟩ := F
  obtain ⟨hE1, rfl⟩ := hE
  intro H locs ls hP hS hl
  exact lv_aload hx hb hd (hl.2.2 7 (aR x) rfl rfl) (k H locs ls hP hS hl)
theorem aw_astore7 (F : Fx X K cc own ret d U tb) {a0 a1 a2 a3 a4 a5 a6 : AV} {r : List AV} {x : Id4} {w : AV} (hd : decode cc pc = .ok (.astore 7, 2)) (hw : (a0 :: a1 :: a2 :: a3 :: a4 :: a5 :: a6 :: w :: r).all (fun v => !wide v) = true) (hn : (a0 :: a1 :: a2 :: a3 :: a4 :: a5 :: a6 :: w :: r).length = K.2.2.2.1) (k : AW X K (pc + 2) (a0 :: a1 :: a2 :: a3 :: a4 :: a5 :: a6 :: aR x :: r) (st) (M, Rf) u Q) : AW X K pc (a0 :: a1 :: a2 :: a3 :: a4 :: a5 :: a6 :: w :: r) (aR x :: st) (M, Rf) u Q := by
  obtain ⟨p, l, e, R, s, m, args, below, meth, c⟩ := X
  obtain ⟨g, cy, A, nL, ρ, L⟩ := K
  obtain ⟨hx, hb, hml, hown, hts, hK, hnd, hD, hA, hlk, hret, hR, htr, hZ, hE⟩ := F
  obtain ⟨hE1, rfl⟩ := hE
  intro H locs ls hP hS hl
  have hn9 : _ = nL := hn
  refine lv_astore hx hb hd (lh_as hl) (by rw [← hn9]; simp only [List.length_cons]; omega) rfl (fun ls' h' => ?_)
  exact k H locs ls' hP hS (lh_set (i := 7) (v := aR x) hl hw (by simp only [List.length_cons]; omega) h')
theorem aw_iinc7 (F : Fx X K cc own ret d U tb) {a0 a1 a2 a3 a4 a5 a6 : AV} {r : List AV} {x n : Int} (hd : decode cc pc = .ok (.iinc 7 n, 3)) (hw : (a0 :: a1 :: a2 :: a3 :: a4 :: a5 :: a6 :: aI x :: r).all (fun v => !wide v) = true) (hn : (a0 :: a1 :: a2 :: a3 :: a4 :: a5 :: a6 :: aI x :: r).length = K.2.2.2.1) (k : AW X K (pc + 3) (a0 :: a1 :: a2 :: a3 :: a4 :: a5 :: a6 :: aI (x + n) :: r) (st) (M, Rf) u Q) : AW X K pc (a0 :: a1 :: a2 :: a3 :: a4 :: a5 :: a6 :: aI x :: r) (st) (M, Rf) u Q := by
  obtain ⟨p, l, e, R, s, m, args, below, meth, c⟩ := X
  obtain ⟨g, cy, A, nL, ρ, L⟩ := K
  obtain ⟨hx, hb, hml, hown, hts, hK, hnd, hD, hA, hlk, hret, hR, htr, hZ, hE⟩ := F
  obtain ⟨hE1, rfl⟩ := hE
  intro H locs ls hP hS hl
  obtain ⟨j, hj⟩ := lh_mem (i := 7) (v := aI x) hl rfl rfl
  have hn9 : _ = nL := hn
  refine lv_iinc hx hb hd (lh_as hl) hj (v := Int32.ofInt (x + n)) (Int32.ofInt_add x n).symm (by rw [← hn9]; simp only [List.length_cons]; omega) rfl (fun ls' h' => ?_)
  exact k H locs ls' hP hS (lh_set (i := 7) (v := aI (x + n)) hl hw (by simp only [List.length_cons]; omega) h')
theorem aw_iload8 (F : Fx X K cc own ret d U tb) {a0 a1 a2 a3 a4 a5 a6 a7 : AV} {r : List AV} {x : Int} (hd : decode cc pc = .ok (.iload 8, 2)) (k : AW X K (pc + 2) (a0 :: a1 :: a2 :: a3 :: a4 :: a5 :: a6 :: a7 :: aI x :: r) (aI x :: st) (M, Rf) u Q) : AW X K pc (a0 :: a1 :: a2 :: a3 :: a4 :: a5 :: a6 :: a7 :: aI x :: r) (st) (M, Rf) u Q := by
  obtain ⟨p, l, e, R, s, m, args, below, meth, c⟩ := X
  obtain ⟨g, cy, A, nL, ρ, L⟩ := K
  obtain ⟨hx, hb, hml, hown, hts, hK, hnd, hD, hA, hlk, hret, hR, htr, hZ, hE⟩ := F
  obtain ⟨hE1, rfl⟩ := hE
  intro H locs ls hP hS hl
  exact lv_iload hx hb hd (hl.2.2 8 (aI x) rfl rfl) (k H locs ls hP hS hl)
theorem aw_istore8 (F : Fx X K cc own ret d U tb) {a0 a1 a2 a3 a4 a5 a6 a7 : AV} {r : List AV} {x : Int} {w : AV} (hd : decode cc pc = .ok (.istore 8, 2)) (hw : (a0 :: a1 :: a2 :: a3 :: a4 :: a5 :: a6 :: a7 :: w :: r).all (fun v => !wide v) = true) (hn : (a0 :: a1 :: a2 :: a3 :: a4 :: a5 :: a6 :: a7 :: w :: r).length = K.2.2.2.1) (k : AW X K (pc + 2) (a0 :: a1 :: a2 :: a3 :: a4 :: a5 :: a6 :: a7 :: aI x :: r) (st) (M, Rf) u Q) : AW X K pc (a0 :: a1 :: a2 :: a3 :: a4 :: a5 :: a6 :: a7 :: w :: r) (aI x :: st) (M, Rf) u Q := by
  obtain ⟨p, l, e, R, s, m, args, below, meth, c⟩ := X
  obtain ⟨g, cy, A, nL, ρ, L⟩ := K
  obtain ⟨hx, hb, hml, hown, hts, hK, hnd, hD, hA, hlk, hret, hR, htr, hZ, hE⟩ := F
  obtain ⟨hE1, rfl⟩ := hE
  intro H locs ls hP hS hl
  have hn9 : _ = nL := hn
  refine lv_istore hx hb hd (lh_as hl) (by rw [← hn9]; simp only [List.length_cons]; omega) rfl (fun ls' h' => ?_)
  exact k H locs ls' hP hS (lh_set (i := 8) (v := aI x) hl hw (by simp only [List.length_cons]; omega) h')
theorem aw_aload8 (F : Fx X K cc own ret d U tb) {a0 a1 a2 a3 a4 a5 a6 a7 : AV} {r : List AV} {x : Id4} (hd : decode cc pc = .ok (.aload 8, 2)) (k : AW X K (pc + 2) (a0 :: a1 :: a2 :: a3 :: a4 :: a5 :: a6 :: a7 :: aR x :: r) (aR x :: st) (M, Rf) u Q) : AW X K pc (a0 :: a1 :: a2 :: a3 :: a4 :: a5 :: a6 :: a7 :: aR x :: r) (st) (M, Rf) u Q := by
  obtain ⟨p, l, e, R, s, m, args, below, meth, c⟩ := X
  obtain ⟨g, cy, A, nL, ρ, L⟩ := K
  obtain ⟨hx, hb, hml, hown, hts, hK, hnd, hD, hA, hlk, hret, hR, htr, hZ, hE⟩ := F
  obtain ⟨hE1, rfl⟩ := hE
  intro H locs ls hP hS hl
  exact lv_aload hx hb hd (hl.2.2 8 (aR x) rfl rfl) (k H locs ls hP hS hl)
theorem aw_astore8 (F : Fx X K cc own ret d U tb) {a0 a1 a2 a3 a4 a5 a6 a7 : AV} {r : List AV} {x : Id4} {w : AV} (hd : decode cc pc = .ok (.astore 8, 2)) (hw : (a0 :: a1 :: a2 :: a3 :: a4 :: a5 :: a6 :: a7 :: w :: r).all (fun v => !wide v) = true) (hn : (a0 :: a1 :: a2 :: a3 :: a4 :: a5 :: a6 :: a7 :: w :: r).length = K.2.2.2.1) (k : AW X K (pc + 2) (a0 :: a1 :: a2 :: a3 :: a4 :: a5 :: a6 :: a7 :: aR x :: r) (st) (M, Rf) u Q) : AW X K pc (a0 :: a1 :: a2 :: a3 :: a4 :: a5 :: a6 :: a7 :: w :: r) (aR x :: st) (M, Rf) u Q := by
  obtain ⟨p, l, e, R, s, m, args, below, meth, c⟩ := X
  obtain ⟨g, cy, A, nL, ρ, L⟩ := K
  obtain ⟨hx, hb, hml, hown, hts, hK, hnd, hD, hA, hlk, hret, hR, htr, hZ, hE⟩ := F
  obtain ⟨hE1, rfl⟩ := hE
  intro H locs ls hP hS hl
  have hn9 : _ = nL := hn
  refine lv_astore hx hb hd (lh_as hl) (by rw [← hn9]; simp only [List.length_cons]; omega) rfl (fun ls' h' => ?_)
  exact k H locs ls' hP hS (lh_set (i := 8) (v := aR x) hl hw (by simp only [List.length_cons]; omega) h')
theorem aw_iinc8 (F : Fx X K cc own ret d U tb) {a0 a1 a2 a3 a4 a5 a6 a7 : AV} {r : List AV} {x n : Int} (hd : decode cc pc = .ok (.iinc 8 n, 3)) (hw : (a0 :: a1 :: a2 :: a3 :: a4 :: a5 :: a6 :: a7 :: aI x :: r).all (fun v => !wide v) = true) (hn : (a0 :: a1 :: a2 :: a3 :: a4 :: a5 :: a6 :: a7 :: aI x :: r).length = K.2.2.2.1) (k : AW X K (pc + 3) (a0 :: a1 :: a2 :: a3 :: a4 :: a5 :: a6 :: a7 :: aI (x + n) :: r) (st) (M, Rf) u Q) : AW X K pc (a0 :: a1 :: a2 :: a3 :: a4 :: a5 :: a6 :: a7 :: aI x :: r) (st) (M, Rf) u Q := by
  obtain ⟨p, l, e, R, s, m, args, below, meth, c⟩ := X
  obtain ⟨g, cy, A, nL, ρ, L⟩ := K
  obtain ⟨hx, hb, hml, hown, hts, hK, hnd, hD, hA, hlk, hret, hR, htr, hZ, hE⟩ := F
  obtain ⟨hE1, rfl⟩ := hE
  intro H locs ls hP hS hl
  obtain ⟨j, hj⟩ := lh_mem (i := 8) (v := aI x) hl rfl rfl
  have hn9 : _ = nL := hn
  refine lv_iinc hx hb hd (lh_as hl) hj (v := Int32.ofInt (x + n)) (Int32.ofInt_add x n).symm (by rw [← hn9]; simp only [List.length_cons]; omega) rfl (fun ls' h' => ?_)
  exact k H locs ls' hP hS (lh_set (i := 8) (v := aI (x + n)) hl hw (by simp only [List.length_cons]; omega) h')
theorem aw_iload9 (F : Fx X K cc own ret d U tb) {a0 a1 a2 a3 a4 a5 a6 a7 a8 : AV} {r : List AV} {x : Int} (hd : decode cc pc = .ok (.iload 9, 2)) (k : AW X K (pc + 2) (a0 :: a1 :: a2 :: a3 :: a4 :: a5 :: a6 :: a7 :: a8 :: aI x :: r) (aI x :: st) (M, Rf) u Q) : AW X K pc (a0 :: a1 :: a2 :: a3 :: a4 :: a5 :: a6 :: a7 :: a8 :: aI x :: r) (st) (M, Rf) u Q := by
  obtain ⟨p, l, e, R, s, m, args, below, meth, c⟩ := X
  obtain ⟨g, cy, A, nL, ρ, L⟩ := K
  obtain ⟨hx, hb, hml, hown, hts, hK, hnd, hD, hA, hlk, hret, hR, htr, hZ, hE⟩ := F
  obtain ⟨hE1, rfl⟩ := hE
  intro H locs ls hP hS hl
  exact lv_iload hx hb hd (hl.2.2 9 (aI x) rfl rfl) (k H locs ls hP hS hl)
theorem aw_istore9 (F : Fx X K cc own ret d U tb) {a0 a1 a2 a3 a4 a5 a6 a7 a8 : AV} {r : List AV} {x : Int} {w : AV} (hd : decode cc pc = .ok (.istore 9, 2)) (hw : (a0 :: a1 :: a2 :: a3 :: a4 :: a5 :: a6 :: a7 :: a8 :: w :: r).all (fun v => !wide v) = true) (hn : (a0 :: a1 :: a2 :: a3 :: a4 :: a5 :: a6 :: a7 :: a8 :: w :: r).length = K.2.2.2.1) (k : AW X K (pc + 2) (a0 :: a1 :: a2 :: a3 :: a4 :: a5 :: a6 :: a7 :: a8 :: aI x :: r) (st) (M, Rf) u Q) : AW X K pc (a0 :: a1 :: a2 :: a3 :: a4 :: a5 :: a6 :: a7 :: a8 :: w :: r) (aI x :: st) (M, Rf) u Q := by
  obtain ⟨p, l, e, R, s, m, args, below, meth, c⟩ := X
  obtain ⟨g, cy, A, nL, ρ, L⟩ := K
  obtain ⟨hx, hb, hml, hown, hts, hK, hnd, hD, hA, hlk, hret, hR, htr, hZ, hE⟩ := F
  obtain ⟨hE1, rfl⟩ := hE
  intro H locs ls hP hS hl
  have hn9 : _ = nL := hn
  refine lv_istore hx hb hd (lh_as hl) (by rw [← hn9]; simp only [List.length_cons]; omega) rfl (fun ls' h' => ?_)
  exact k H locs ls' hP hS (lh_set (i := 9) (v := aI x) hl hw (by simp only [List.length_cons]; omega) h')
theorem aw_aload9 (F : Fx X K cc own ret d U tb) {a0 a1 a2 a3 a4 a5 a6 a7 a8 : AV} {r : List AV} {x : Id4} (hd : decode cc pc = .ok (.aload 9, 2)) (k : AW X K (pc + 2) (a0 :: a1 :: a2 :: a3 :: a4 :: a5 :: a6 :: a7 :: a8 :: aR x :: r) (aR x :: st) (M, Rf) u Q) : AW X K pc (a0 :: a1 :: a2 :: a3 :: a4 :: a5 :: a6 :: a7 :: a8 :: aR x :: r) (st) (M, Rf) u Q := by
  obtain ⟨p, l, e, R, s, m, args, below, meth, c⟩ := X
  obtain ⟨g, cy, A, nL, ρ, L⟩ := K
  obtain ⟨hx, hb, hml, hown, hts, hK, hnd, hD, hA, hlk, hret, hR, htr, hZ, hE⟩ := F
  obtain ⟨hE1, rfl⟩ := hE
  intro H locs ls hP hS hl
  exact lv_aload hx hb hd (hl.2.2 9 (aR x) rfl rfl) (k H locs ls hP hS hl)
theorem aw_astore9 (F : Fx X K cc own ret d U tb) {a0 a1 a2 a3 a4 a5 a6 a7 a8 : AV} {r : List AV} {x : Id4} {w : AV} (hd : decode cc pc = .ok (.astore 9, 2)) (hw : (a0 :: a1 :: a2 :: a3 :: a4 :: a5 :: a6 :: a7 :: a8 :: w :: r).all (fun v => !wide v) = true) (hn : (a0 :: a1 :: a2 :: a3 :: a4 :: a5 :: a6 :: a7 :: a8 :: w :: r).length = K.2.2.2.1) (k : AW X K (pc + 2) (a0 :: a1 :: a2 :: a3 :: a4 :: a5 :: a6 :: a7 :: a8 :: aR x :: r) (st) (M, Rf) u Q) : AW X K pc (a0 :: a1 :: a2 :: a3 :: a4 :: a5 :: a6 :: a7 :: a8 :: w :: r) (aR x :: st) (M, Rf) u Q := by
  obtain ⟨p, l, e, R, s, m, args, below, meth, c⟩ := X
  obtain ⟨g, cy, A, nL, ρ, L⟩ := K
  obtain ⟨hx, hb, hml, hown, hts, hK, hnd, hD, hA, hlk, hret, hR, htr, hZ, hE⟩ := F
  obtain ⟨hE1, rfl⟩ := hE
  intro H locs ls hP hS hl
  have hn9 : _ = nL := hn
  refine lv_astore hx hb hd (lh_as hl) (by rw [← hn9]; simp only [List.length_cons]; omega) rfl (fun ls' h' => ?_)
  exact k H locs ls' hP hS (lh_set (i := 9) (v := aR x) hl hw (by simp only [List.length_cons]; omega) h')
theorem aw_iinc9 (F : Fx X K cc own ret d U tb) {a0 a1 a2 a3 a4 a5 a6 a7 a8 : AV} {r : List AV} {x n : Int} (hd : decode cc pc = .ok (.iinc 9 n, 3)) (hw : (a0 :: a1 :: a2 :: a3 :: a4 :: a5 :: a6 :: a7 :: a8 :: aI x :: r).all (fun v => !wide v) = true) (hn : (a0 :: a1 :: a2 :: a3 :: a4 :: a5 :: a6 :: a7 :: a8 :: aI x :: r).length = K.2.2.2.1) (k : AW X K (pc + 3) (a0 :: a1 :: a2 :: a3 :: a4 :: a5 :: a6 :: a7 :: a8 :: aI (x + n) :: r) (st) (M, Rf) u Q) : AW X K pc (a0 :: a1 :: a2 :: a3 :: a4 :: a5 :: a6 :: a7 :: a8 :: aI x :: r) (st) (M, Rf) u Q := by
  obtain ⟨p, l, e, R, s, m, args, below, meth, c⟩ := X
  obtain ⟨g, cy, A, nL, ρ, L⟩ := K
  obtain ⟨hx, hb, hml, hown, hts, hK, hnd, hD, hA, hlk, hret, hR, htr, hZ, hE⟩ := F
  obtain ⟨hE1, rfl⟩ := hE
  intro H locs ls hP hS hl
  obtain ⟨j, hj⟩ := lh_mem (i := 9) (v := aI x) hl rfl rfl
  have hn9 : _ = nL := hn
  refine lv_iinc hx hb hd (lh_as hl) hj (v := Int32.ofInt (x + n)) (Int32.ofInt_add x n).symm (by rw [← hn9]; simp only [List.length_cons]; omega) rfl (fun ls' h' => ?_)
  exact k H locs ls' hP hS (lh_set (i := 9) (v := aI (x + n)) hl hw (by simp only [List.length_cons]; omega) h')
theorem aw_iload10 (F : Fx X K cc own ret d U tb) {a0 a1 a2 a3 a4 a5 a6 a7 a8 a9 : AV} {r : List AV} {x : Int} (hd : decode cc pc = .ok (.iload 10, 2)) (k : AW X K (pc + 2) (a0 :: a1 :: a2 :: a3 :: a4 :: a5 :: a6 :: a7 :: a8 :: a9 :: aI x :: r) (aI x :: st) (M, Rf) u Q) : AW X K pc (a0 :: a1 :: a2 :: a3 :: a4 :: a5 :: a6 :: a7 :: a8 :: a9 :: aI x :: r) (st) (M, Rf) u Q := by
  obtain ⟨p, l, e, R, s, m, args, below, meth, c⟩ := X
  obtain ⟨g, cy, A, nL, ρ, L⟩ := K
  obtain ⟨hx, hb, hml, hown, hts, hK, hnd, hD, hA, hlk, hret, hR, htr, hZ, hE⟩ := F
  obtain ⟨hE1, rfl⟩ := hE
  intro H locs ls hP hS hl
  exact lv_iload hx hb hd (hl.2.2 10 (aI x) rfl rfl) (k H locs ls hP hS hl)
theorem aw_istore10 (F : Fx X K cc own ret d U tb) {a0 a1 a2 a3 a4 a5 a6 a7 a8 a9 : AV} {r : List AV} {x : Int} {w : AV} (hd : decode cc pc = .ok (.istore 10, 2)) (hw : (a0 :: a1 :: a2 :: a3 :: a4 :: a5 :: a6 :: a7 :: a8 :: a9 :: w :: r).all (fun v => !wide v) = true) (hn : (a0 :: a1 :: a2 :: a3 :: a4 :: a5 :: a6 :: a7 :: a8 :: a9 :: w :: r).length = K.2.2.2.1) (k : AW X K (pc + 2) (a0 :: a1 :: a2 :: a3 :: a4 :: a5 :: a6 :: a7 :: a8 :: a9 :: aI x :: r) (st) (M, Rf) u Q) : AW X K pc (a0 :: a1 :: a2 :: a3 :: a4 :: a5 :: a6 :: a7 :: a8 :: a9 :: w :: r) (aI x :: st) (M, Rf) u Q := by
  obtain ⟨p, l, e, R, s, m, args, below, meth, c⟩ := X
  obtain ⟨g, cy, A, nL, ρ, L⟩ := K
  obtain ⟨hx, hb, hml, hown, hts, hK, hnd, hD, hA, hlk, hret, hR, htr, hZ, hE⟩ := F
  obtain ⟨hE1, rfl⟩ := hE
  intro H locs ls hP hS hl
  have hn9 : _ = nL := hn
  refine lv_istore hx hb hd (lh_as hl) (by rw [← hn9]; simp only [List.length_cons]; omega) rfl (fun ls' h' => ?_)
  exact k H locs ls' hP hS (lh_set (i := 10) (v := aI x) hl hw (by simp only [List.length_cons]; omega) h')
theorem aw_aload10 (F : Fx X K cc own ret d U tb) {a0 a1 a2 a3 a4 a5 a6 a7 a8 a9 : AV} {r : List AV} {x : Id4} (hd : decode cc pc = .ok (.aload 10, 2)) (k : AW X K (pc + 2) (a0 :: a1 :: a2 :: a3 :: a4 :: a5 :: a6 :: a7 :: a8 :: a9 :: aR x :: r) (aR x :: st) (M, Rf) u Q) : AW X K pc (a0 :: a1 :: a2 :: a3 :: a4 :: a5 :: a6 :: a7 :: a8 :: a9 :: aR x :: r) (st) (M, Rf) u Q := by
  obtain ⟨p, l, e, R, s, m, args, below, meth, c⟩ := X
  obtain ⟨g, cy, A, nL, ρ, L⟩ := K
  obtain ⟨hx, hb, hml, hown, hts, hK, hnd, hD, hA, hlk, hret, hR, htr, hZ, hE⟩ := F
  obtain ⟨hE1, rfl⟩ := hE
  intro H locs ls hP hS hl
  exact lv_aload hx hb hd (hl.2.2 10 (aR x) rfl rfl) (k H locs ls hP hS hl)
theorem aw_astore10 (F : Fx X K cc own ret d U tb) {a0 a1 a2 a3 a4 a5 a6 a7 a8 a9 : AV} {r : List AV} {x : Id4} {w : AV} (hd : decode cc pc = .ok (.astore 10, 2)) (hw : (a0 :: a1 :: a2 :: a3 :: a4 :: a5 :: a6 :: a7 :: a8 :: a9 :: w :: r).all (fun v => !wide v) = true) (hn : (a0 :: a1 :: a2 :: a3 :: a4 :: a5 :: a6 :: a7 :: a8 :: a9 :: w :: r).length = K.2.2.2.1) (k : AW X K (pc + 2) (a0 :: a1 :: a2 :: a3 :: a4 :: a5 :: a6 :: a7 :: a8 :: a9 :: aR x :: r) (st) (M, Rf) u Q) : AW X K pc (a0 :: a1 :: a2 :: a3 :: a4 :: a5 :: a6 :: a7 :: a8 :: a9 :: w :: r) (aR x :: st) (M, Rf) u Q := by
  obtain ⟨p, l, e, R, s, m, args, below, meth, c⟩ := X
  obtain ⟨g, cy, A, nL, ρ, L⟩ := K
  obtain ⟨hx, hb, hml, hown, hts, hK, hnd, hD, hA, hlk, hret, hR, htr, hZ, hE⟩ := F
  obtain ⟨hE1, rfl⟩ := hE
  intro H locs ls hP hS hl
  have hn9 : _ = nL := hn
  refine lv_astore hx hb hd (lh_as hl) (by rw [← hn9]; simp only [List.length_cons]; omega) rfl (fun ls' h' => ?_)
  exact k H locs ls' hP hS (lh_set (i := 10) (v := aR x) hl hw (by simp only [List.length_cons]; omega) h')
theorem aw_iinc10 (F : Fx X K cc own ret d U tb) {a0 a1 a2 a3 a4 a5 a6 a7 a8 a9 : AV} {r : List AV} {x n : Int} (hd : decode cc pc = .ok (.iinc 10 n, 3)) (hw : (a0 :: a1 :: a2 :: a3 :: a4 :: a5 :: a6 :: a7 :: a8 :: a9 :: aI x :: r).all (fun v => !wide v) = true) (hn : (a0 :: a1 :: a2 :: a3 :: a4 :: a5 :: a6 :: a7 :: a8 :: a9 :: aI x :: r).length = K.2.2.2.1) (k : AW X K (pc + 3) (a0 :: a1 :: a2 :: a3 :: a4 :: a5 :: a6 :: a7 :: a8 :: a9 :: aI (x + n) :: r) (st) (M, Rf) u Q) : AW X K pc (a0 :: a1 :: a2 :: a3 :: a4 :: a5 :: a6 :: a7 :: a8 :: a9 :: aI x :: r) (st) (M, Rf) u Q := by
  obtain ⟨p, l, e, R, s, m, args, below, meth, c⟩ := X
  obtain ⟨g, cy, A, nL, ρ, L⟩ := K
  obtain ⟨hx, hb, hml, hown, hts, hK, hnd, hD, hA, hlk, hret, hR, htr, hZ, hE⟩ := F
  obtain ⟨hE1, rfl⟩ := hE
  intro H locs ls hP hS hl
  obtain ⟨j, hj⟩ := lh_mem (i := 10) (v := aI x) hl rfl rfl
  have hn9 : _ = nL := hn
  refine lv_iinc hx hb hd (lh_as hl) hj (v := Int32.ofInt (x + n)) (Int32.ofInt_add x n).symm (by rw [← hn9]; simp only [List.length_cons]; omega) rfl (fun ls' h' => ?_)
  exact k H locs ls' hP hS (lh_set (i := 10) (v := aI (x + n)) hl hw (by simp only [List.length_cons]; omega) h')
theorem aw_iload11 (F : Fx X K cc own ret d U tb) {a0 a1 a2 a3 a4 a5 a6 a7 a8 a9 a10 : AV} {r : List AV} {x : Int} (hd : decode cc pc = .ok (.iload 11, 2)) (k : AW X K (pc + 2) (a0 :: a1 :: a2 :: a3 :: a4 :: a5 :: a6 :: a7 :: a8 :: a9 :: a10 :: aI x :: r) (aI x :: st) (M, Rf) u Q) : AW X K pc (a0 :: a1 :: a2 :: a3 :: a4 :: a5 :: a6 :: a7 :: a8 :: a9 :: a10 :: aI x :: r) (st) (M, Rf) u Q := by
  obtain ⟨p, l, e, R, s, m, args, below, meth, c⟩ := X
  obtain ⟨g, cy, A, nL, ρ, L⟩ := K
  obtain ⟨hx, hb, hml, hown, hts, hK, hnd, hD, hA, hlk, hret, hR, htr, hZ, hE⟩ := F
  obtain ⟨hE1, rfl⟩ := hE
  intro H locs ls hP hS hl
  exact lv_iload hx hb hd (hl.2.2 11 (aI x) rfl rfl) (k H locs ls hP hS hl)
theorem aw_istore11 (F : Fx X K cc own ret d U tb) {a0 a1 a2 a3 a4 a5 a6 a7 a8 a9 a10 : AV} {r : List AV} {x : Int} {w : AV} (hd : decode cc pc = .ok (.istore 11, 2)) (hw : (a0 :: a1 :: a2 :: a3 :: a4 :: a5 :: a6 :: a7 :: a8 :: a9 :: a10 :: w :: r).all (fun v => !wide v) = true) (hn : (a0 :: a1 :: a2 :: a3 :: a4 :: a5 :: a6 :: a7 :: a8 :: a9 :: a10 :: w :: r).length = K.2.2.2.1) (k : AW X K (pc + 2) (a0 :: a1 :: a2 :: a3 :: a4 :: a5 :: a6 :: a7 :: a8 :: a9 :: a10 :: aI x :: r) (st) (M, Rf) u Q) : AW X K pc (a0 :: a1 :: a2 :: a3 :: a4 :: a5 :: a6 :: a7 :: a8 :: a9 :: a10 :: w :: r) (aI x :: st) (M, Rf) u Q := by
  obtain ⟨p, l, e, R, s, m, args, below, meth, c⟩ := X
  obtain ⟨g, cy, A, nL, ρ, L⟩ := K
  obtain ⟨hx, hb, hml, hown, hts, hK, hnd, hD, hA, hlk, hret, hR, htr, hZ, hE⟩ := F
  obtain ⟨hE1, rfl⟩ := hE
  intro H locs ls hP hS hl
  have hn9 : _ = nL := hn
  refine lv_istore hx hb hd (lh_as hl) (by rw [← hn9]; simp only [List.length_cons]; omega) rfl (fun ls' h' => ?_)
  exact k H locs ls' hP hS (lh_set (i := 11) (v := aI x) hl hw (by simp only [List.length_cons]; omega) h')
theorem aw_aload11 (F : Fx X K cc own ret d U tb) {a0 a1 a2 a3 a4 a5 a6 a7 a8 a9 a10 : AV} {r : List AV} {x : Id4} (hd : decode cc pc = .ok (.aload 11, 2)) (k : AW X K (pc + 2) (a0 :: a1 :: a2 :: a3 :: a4 :: a5 :: a6 :: a7 :: a8 :: a9 :: a10 :: aR x :: r) (aR x :: st) (M, Rf) u Q) : AW X K pc (a0 :: a1 :: a2 :: a3 :: a4 :: a5 :: a6 :: a7 :: a8 :: a9 :: a10 :: aR x :: r) (st) (M, Rf) u Q := by
  obtain ⟨p, l, e, R, s, m, args, below, meth, c⟩ := X
  obtain ⟨g, cy, A, nL, ρ, L⟩ := K
  obtain ⟨hx, hb, hml, hown, hts, hK, hnd, hD, hA, hlk, hret, hR, htr, hZ, hE⟩ := F
  obtain ⟨hE1, rfl⟩ := hE
  intro H locs ls hP hS hl
  exact lv_aload hx hb hd (hl.2.2 11 (aR x) rfl rfl) (k H locs ls hP hS hl)
theorem aw_astore11 (F : Fx X K cc own ret d U tb) {a0 a1 a2 a3 a4 a5 a6 a7 a8 a9 a10 : AV} {r : List AV} {x : Id4} {w : AV} (hd : decode cc pc = .ok (.astore 11, 2)) (hw : (a0 :: a1 :: a2 :: a3 :: a4 :: a5 :: a6 :: a7 :: a8 :: a9 :: a10 :: w :: r).all (fun v => !wide v) = true) (hn : (a0 :: a1 :: a2 :: a3 :: a4 :: a5 :: a6 :: a7 :: a8 :: a9 :: a10 :: w :: r).length = K.2.2.2.1) (k : AW X K (pc + 2) (a0 :: a1 :: a2 :: a3 :: a4 :: a5 :: a6 :: a7 :: a8 :: a9 :: a10 :: aR x :: r) (st) (M, Rf) u Q) : AW X K pc (a0 :: a1 :: a2 :: a3 :: a4 :: a5 :: a6 :: a7 :: a8 :: a9 :: a10 :: w :: r) (aR x :: st) (M, Rf) u Q := by
  obtain ⟨p, l, e, R, s, m, args, below, meth, c⟩ := X
  obtain ⟨g, cy, A, nL, ρ, L⟩ := K
  obtain ⟨hx, hb, hml, hown, hts, hK, hnd, hD, hA, hlk, hret, hR, htr, hZ, hE⟩ := F
  obtain ⟨hE1, rfl⟩ := hE
  intro H locs ls hP hS hl
  have hn9 : _ = nL := hn
  refine lv_astore hx hb hd (lh_as hl) (by rw [← hn9]; simp only [List.length_cons]; omega) rfl (fun ls' h' => ?_)
  exact k H locs ls' hP hS (lh_set (i := 11) (v := aR x) hl hw (by simp only [List.length_cons]; omega) h')
theorem aw_iinc11 (F : Fx X K cc own ret d U tb) {a0 a1 a2 a3 a4 a5 a6 a7 a8 a9 a10 : AV} {r : List AV} {x n : Int} (hd : decode cc pc = .ok (.iinc 11 n, 3)) (hw : (a0 :: a1 :: a2 :: a3 :: a4 :: a5 :: a6 :: a7 :: a8 :: a9 :: a10 :: aI x :: r).all (fun v => !wide v) = true) (hn : (a0 :: a1 :: a2 :: a3 :: a4 :: a5 :: a6 :: a7 :: a8 :: a9 :: a10 :: aI x :: r).length = K.2.2.2.1) (k : AW X K (pc + 3) (a0 :: a1 :: a2 :: a3 :: a4 :: a5 :: a6 :: a7 :: a8 :: a9 :: a10 :: aI (x + n) :: r) (st) (M, Rf) u Q) : AW X K pc (a0 :: a1 :: a2 :: a3 :: a4 :: a5 :: a6 :: a7 :: a8 :: a9 :: a10 :: aI x :: r) (st) (M, Rf) u Q := by
  obtain ⟨p, l, e, R, s, m, args, below, meth, c⟩ := X
  obtain ⟨g, cy, A, nL, ρ, L⟩ := K
  obtain ⟨hx, hb, hml, hown, hts, hK, hnd, hD, hA, hlk, hret, hR, htr, hZ, hE⟩ := F
  obtain ⟨hE1, rfl⟩ := hE
  intro H locs ls hP hS hl
  obtain ⟨j, hj⟩ := lh_mem (i := 11) (v := aI x) hl rfl rfl
  have hn9 : _ = nL := hn
  refine lv_iinc hx hb hd (lh_as hl) hj (v := Int32.ofInt (x + n)) (Int32.ofInt_add x n).symm (by rw [← hn9]; simp only [List.length_cons]; omega) rfl (fun ls' h' => ?_)
  exact k H locs ls' hP hS (lh_set (i := 11) (v := aI (x + n)) hl hw (by simp only [List.length_cons]; omega) h')
theorem aw_iload12 (F : Fx X K cc own ret d U tb) {a0 a1 a2 a3 a4 a5 a6 a7 a8 a9 a10 a11 : AV} {r : List AV} {x : Int} (hd : decode cc pc = .ok (.iload 12, 2)) (k : AW X K (pc + 2) (a0 :: a1 :: a2 :: a3 :: a4 :: a5 :: a6 :: a7 :: a8 :: a9 :: a10 :: a11 :: aI x :: r) (aI x :: st) (M, Rf) u Q) : AW X K pc (a0 :: a1 :: a2 :: a3 :: a4 :: a5 :: a6 :: a7 :: a8 :: a9 :: a10 :: a11 :: aI x :: r) (st) (M, Rf) u Q := by
  obtain ⟨p, l, e, R, s, m, args, below, meth, c⟩ := X
  obtain ⟨g, cy, A, nL, ρ, L⟩ := K
  obtain ⟨hx, hb, hml, hown, hts, hK, hnd, hD, hA, hlk, hret, hR, htr, hZ, hE⟩ := F
  obtain ⟨hE1, rfl⟩ := hE
  intro H locs ls hP hS hl
  exact lv_iload hx hb hd (hl.2.2 12 (aI x) rfl rfl) (k H locs ls hP hS hl)
theorem aw_istore12 (F : Fx X K cc own ret d U tb) {a0 a1 a2 a3 a4 a5 a6 a7 a8 a9 a10 a11 : AV} {r : List AV} {x : Int} {w : AV} (hd : decode cc pc = .ok (.istore 12, 2)) (hw : (a0 :: a1 :: a2 :: a3 :: a4 :: a5 :: a6 :: a7 :: a8 :: a9 :: a10 :: a11 :: w :: r).all (fun v => !wide v) = true) (hn : (a0 :: a1 :: a2 :: a3 :: a4 :: a5 :: a6 :: a7 :: a8 :: a9 :: a10 :: a11 :: w :: r).length = K.2.2.2.1) (k : AW X K (pc + 2) (a0 :: a1 :: a2 :: a3 :: a4 :: a5 :: a6 :: a7 :: a8 :: a9 :: a10 :: a11 :: aI x :: r) (st) (M, Rf) u Q) : AW X K pc (a0 :: a1 :: a2 :: a3 :: a4 :: a5 :: a6 :: a7 :: a8 :: a9 :: a10 :: a11 :: w :: r) (aI x :: st) (M, Rf) u Q := by
  obtain ⟨p, l, e, R, s, m, args, below, meth, c⟩ := X
  obtain ⟨g, cy, A, nL, ρ, L⟩ := K
  obtain ⟨hx, hb, hml, hown, hts, hK, hnd, hD, hA, hlk, hret, hR, htr, hZ, hE⟩ := F
  obtain ⟨hE1, rfl⟩ := hE
  intro H locs ls hP hS hl
  have hn9 : _ = nL := hn
  refine lv_istore hx hb hd (lh_as hl) (by rw [← hn9]; simp only [List.length_cons]; omega) rfl (fun ls' h' => ?_)
  exact k H locs ls' hP hS (lh_set (i := 12) (v := aI x) hl hw (by simp only [List.length_cons]; omega) h')
theorem aw_aload12 (F : Fx X K cc own ret d U tb) {a0 a1 a2 a3 a4 a5 a6 a7 a8 a9 a10 a11 : AV} {r : List AV} {x : Id4} (hd : decode cc pc = .ok (.aload 12, 2)) (k : AW X K (pc + 2) (a0 :: a1 :: a2 :: a3 :: a4 :: a5 :: a6 :: a7 :: a8 :: a9 :: a10 :: a11 :: aR x :: r) (aR x :: st) (M, Rf) u Q) : AW X K pc (a0 :: a1 :: a2 :: a3 :: a4 :: a5 :: a6 :: a7 :: a8 :: a9 :: a10 :: a11 :: aR x :: r) (st) (M, Rf) u Q := by
  obtain ⟨p, l, e, R, s, m, args, below, meth, c⟩ := X
  obtain ⟨g, cy, A, nL, ρ, L⟩ := K
  obtain ⟨hx, hb, hml, hown, hts, hK, hnd, hD, hA, hlk, hret, hR, htr, hZ, hE⟩ := F
  obtain ⟨hE1, rfl⟩ := hE
  intro H locs ls hP hS hl
  exact lv_aload hx hb hd (hl.2.2 12 (aR x) rfl rfl) (k H locs ls hP hS hl)
theorem aw_astore12 (F : Fx X K cc own ret d U tb) {a0 a1 a2 a3 a4 a5 a6 a7 a8 a9 a10 a11 : AV} {r : List AV} {x : Id4} {w : AV} (hd : decode cc pc = .ok (.astore 12, 2)) (hw : (a0 :: a1 :: a2 :: a3 :: a4 :: a5 :: a6 :: a7 :: a8 :: a9 :: a10 :: a11 :: w :: r).all (fun v => !wide v) = true) (hn : (a0 :: a1 :: a2 :: a3 :: a4 :: a5 :: a6 :: a7 :: a8 :: a9 :: a10 :: a11 :: w :: r).length = K.2.2.2.1) (k : AW X K (pc + 2) (a0 :: a1 :: a2 :: a3 :: a4 :: a5 :: a6 :: a7 :: a8 :: a9 :: a10 :: a11 :: aR x :: r) (st) (M, Rf) u Q) : AW X K pc (a0 :: a1 :: a2 :: a3 :: a4 :: a5 :: a6 :: a7 :: a8 :: a9 :: a10 :: a11 :: w :: r) (aR x :: st) (M, Rf) u Q := by
  obtain ⟨p, l, e, R, s, m, args, below, meth, c⟩ := X
  obtain ⟨g, cy, A, nL, ρ, L⟩ := K
  obtain ⟨hx, hb, hml, hown, hts, hK, hnd, hD, hA, hlk, hret, hR, htr, hZ, hE⟩ := F
  obtain ⟨hE1, rfl⟩ := hE
  intro H locs ls hP hS hl
  have hn9 : _ = nL := hn
  refine lv_astore hx hb hd (lh_as hl) (by rw [← hn9]; simp only [List.length_cons]; omega) rfl (fun ls' h' => ?_)
  exact k H locs ls' hP hS (lh_set (i := 12) (v := aR x) hl hw (by simp only [List.length_cons]; omega) h')
theorem aw_iinc12 (F : Fx X K cc own ret d U tb) {a0 a1 a2 a3 a4 a5 a6 a7 a8 a9 a10 a11 : AV} {r : List AV} {x n : Int} (hd : decode cc pc = .ok (.iinc 12 n, 3)) (hw : (a0 :: a1 :: a2 :: a3 :: a4 :: a5 :: a6 :: a7 :: a8 :: a9 :: a10 :: a11 :: aI x :: r).all (fun v => !wide v) = true) (hn : (a0 :: a1 :: a2 :: a3 :: a4 :: a5 :: a6 :: a7 :: a8 :: a9 :: a10 :: a11 :: aI x :: r).length = K.2.2.2.1) (k : AW X K (pc + 3) (a0 :: a1 :: a2 :: a3 :: a4 :: a5 :: a6 :: a7 :: a8 :: a9 :: a10 :: a11 :: aI (x + n) :: r) (st) (M, Rf) u Q) : AW X K pc (a0 :: a1 :: a2 :: a3 :: a4 :: a5 :: a6 :: a7 :: a8 :: a9 :: a10 :: a11 :: aI x :: r) (st) (M, Rf) u Q := by
  obtain ⟨p, l, e, R, s, m, args, below, meth, c⟩ := X
  obtain ⟨g, cy, A, nL, ρ, L⟩ := K
  obtain ⟨hx, hb, hml, hown, hts, hK, hnd, hD, hA, hlk, hret, hR, htr, hZ, hE⟩ := F
  obtain ⟨hE1, rfl⟩ := hE
  intro H locs ls hP hS hl
  obtain ⟨j, hj⟩ := lh_mem (i := 12) (v := aI x) hl rfl rfl
  have hn9 : _ = nL := hn
  refine lv_iinc hx hb hd (lh_as hl) hj (v := Int32.ofInt (x + n)) (Int32.ofInt_add x n).symm (by rw [← hn9]; simp only [List.length_cons]; omega) rfl (fun ls' h' => ?_)
  exact k H locs ls' hP hS (lh_set (i := 12) (v := aI (x + n)) hl hw (by simp only [List.length_cons]; omega) h')
theorem aw_iload13 (F : Fx X K cc own ret d U tb) {a0 a1 a2 a3 a4 a5 a6 a7 a8 a9 a10 a11 a12 : AV} {r : List AV} {x : Int} (hd : decode cc pc = .ok (.iload 13, 2)) (k : AW X K (pc + 2) (a0 :: a1 :: a2 :: a3 :: a4 :: a5 :: a6 :: a7 :: a8 :: a9 :: a10 :: a11 :: a12 :: aI x :: r) (aI x :: st) (M, Rf) u Q) : AW X K pc (a0 :: a1 :: a2 :: a3 :: a4 :: a5 :: a6 :: a7 :: a8 :: a9 :: a10 :: a11 :: a12 :: aI x :: r) (st) (M, Rf) u Q := by
  obtain ⟨p, l, e, R, s, m, args, below, meth, c⟩ := X
  obtain ⟨g, cy, A, nL, ρ, L⟩ := K
  obtain ⟨hx, hb, hml, hown, hts, hK, hnd, hD, hA, hlk, hret, hR, htr, hZ, hE⟩ := F
  obtain ⟨hE1, rfl⟩ := hE
  intro H locs ls hP hS hl
  exact lv_iload hx hb hd (hl.2.2 13 (aI x) rfl rfl) (k H locs ls hP hS hl)
theorem aw_istore13 (F : Fx X K cc own ret d U tb) {a0 a1 a2 a3 a4 a5 a6 a7 a8 a9 a10 a11 a12 : AV} {r : List AV} {x : Int} {w : AV} (hd : decode cc pc = .ok (.istore 13, 2)) (hw : (a0 :: a1 :: a2 :: a3 :: a4 :: a5 :: a6 :: a7 :: a8 :: a9 :: a10 :: a11 :: a12 :: w :: r).all (fun v => !wide v) = true) (hn : (a0 :: a1 :: a2 :: a3 :: a4 :: a5 :: a6 :: a7 :: a8 :: a9 :: a10 :: a11 :: a12 :: w :: r).length = K.2.2.2.1) (k : AW X K (pc + 2) (a0 :: a1 :: a2 :: a3 :: a4 :: a5 :: a6 :: a7 :: a8 :: a9 :: a10 :: a11 :: a12 :: aI x :: r) (st) (M, Rf) u Q) : AW X K pc (a0 :: a1 :: a2 :: a3 :: a4 :: a5 :: a6 :: a7 :: a8 :: a9 :: a10 :: a11 :: a12 :: w :: r) (aI x :: st) (M, Rf) u Q := by
  obtain ⟨p, l, e, R, s, m, args, below, meth, c⟩ := X
  obtain ⟨g, cy, A, nL, ρ, L⟩ := K
  obtain ⟨hx, hb, hml, hown, hts, hK, hnd, hD, hA, hlk, hret, hR, htr, hZ, hE⟩ := F
  obtain ⟨hE1, rfl⟩ := hE
  intro H locs ls hP hS hl
  have hn9 : _ = nL := hn
  refine lv_istore hx hb hd (lh_as hl) (by rw [← hn9]; simp only [List.length_cons]; omega) rfl (fun ls' h' => ?_)
  exact k H locs ls' hP hS (lh_set (i := 13) (v := aI x) hl hw (by simp only [List.length_cons]; omega) h')
theorem aw_aload13 (F : Fx X K cc own ret d U tb) {a0 a1 a2 a3 a4 a5 a6 a7 a8 a9 a10 a11 a12 : AV} {r : List AV} {x : Id4} (hd : decode cc pc = .ok (.aload 13, 2)) (k : AW X K (pc + 2) (a0 :: a1 :: a2 :: a3 :: a4 :: a5 :: a6 :: a7 :: a8 :: a9 :: a10 :: a11 :: a12 :: aR x :: r) (aR x :: st) (M, Rf) u Q) : AW X K pc (a0 :: a1 :: a2 :: a3 :: a4 :: a5 :: a6 :: a7 :: a8 :: a9 :: a10 :: a11 :: a12 :: aR x :: r) (st) (M, Rf) u Q := by
  obtain ⟨p, l, e, R, s, m, args, below, meth, c⟩ := X
  obtain ⟨g, cy, A, nL, ρ, L⟩ := K
  obtain ⟨hx, hb, hml, hown, hts, hK, hnd, hD, hA, hlk, hret, hR, htr, hZ, hE⟩ := F
  obtain ⟨hE1, rfl⟩ := hE
  intro H locs ls hP hS hl
  exact lv_aload hx hb hd (hl.2.2 13 (aR x) rfl rfl) (k H locs ls hP hS hl)
theorem aw_astore13 (F : Fx X K cc own ret d U tb) {a0 a1 a2 a3 a4 a5 a6 a7 a8 a9 a10 a11 a12 : AV} {r : List AV} {x : Id4} {w : AV} (hd : decode cc pc = .ok (.astore 13, 2)) (hw : (a0 :: a1 :: a2 :: a3 :: a4 :: a5 :: a6 :: a7 :: a8 :: a9 :: a10 :: a11 :: a12 :: w :: r).all (fun v => !wide v) = true) (hn : (a0 :: a1 :: a2 :: a3 :: a4 :: a5 :: a6 :: a7 :: a8 :: a9 :: a10 :: a11 :: a12 :: w :: r).length = K.2.2.2.1) (k : AW X K (pc + 2) (a0 :: a1 :: a2 :: a3 :: a4 :: a5 :: a6 :: a7 :: a8 :: a9 :: a10 :: a11 :: a12 :: aR x :: r) (st) (M, Rf) u Q) : AW X K pc (a0 :: a1 :: a2 :: a3 :: a4 :: a5 :: a6 :: a7 :: a8 :: a9 :: a10 :: a11 :: a12 :: w :: r) (aR x :: st) (M, Rf) u Q := by
  obtain ⟨p, l, e, R, s, m, args, below, meth, c⟩ := X
  obtain ⟨g, cy, A, nL, ρ, L⟩ := K
  obtain ⟨hx, hb, hml, hown, hts, hK, hnd, hD, hA, hlk, hret, hR, htr, hZ, hE⟩ := F
  obtain ⟨hE1, rfl⟩ := hE
  intro H locs ls hP hS hl
  have hn9 : _ = nL := hn
  refine lv_astore hx hb hd (lh_as hl) (by rw [← hn9]; simp only [List.length_cons]; omega) rfl (fun ls' h' => ?_)
  exact k H locs ls' hP hS (lh_set (i := 13) (v := aR x) hl hw (by simp only [List.length_cons]; omega) h')
theorem aw_iinc13 (F : Fx X K cc own ret d U tb) {a0 a1 a2 a3 a4 a5 a6 a7 a8 a9 a10 a11 a12 : AV} {r : List AV} {x n : Int} (hd : decode cc pc = .ok (.iinc 13 n, 3)) (hw : (a0 :: a1 :: a2 :: a3 :: a4 :: a5 :: a6 :: a7 :: a8 :: a9 :: a10 :: a11 :: a12 :: aI x :: r).all (fun v => !wide v) = true) (hn : (a0 :: a1 :: a2 :: a3 :: a4 :: a5 :: a6 :: a7 :: a8 :: a9 :: a10 :: a11 :: a12 :: aI x :: r).length = K.2.2.2.1) (k : AW X K (pc + 3) (a0 :: a1 :: a2 :: a3 :: a4 :: a5 :: a6 :: a7 :: a8 :: a9 :: a10 :: a11 :: a12 :: aI (x + n) :: r) (st) (M, Rf) u Q) : AW X K pc (a0 :: a1 :: a2 :: a3 :: a4 :: a5 :: a6 :: a7 :: a8 :: a9 :: a10 :: a11 :: a12 :: aI x :: r) (st) (M, Rf) u Q := by
  obtain ⟨p, l, e, R, s, m, args, below, meth, c⟩ := X
  obtain ⟨g, cy, A, nL, ρ, L⟩ := K
  obtain ⟨hx, hb, hml, hown, hts, hK, hnd, hD, hA, hlk, hret, hR, htr, hZ, hE⟩ := F
  obtain ⟨hE1, rfl⟩ := hE
  intro H locs ls hP hS hl
  obtain ⟨j, hj⟩ := lh_mem (i := 13) (v := aI x) hl rfl rfl
  have hn9 : _ = nL := hn
  refine lv_iinc hx hb hd (lh_as hl) hj (v := Int32.ofInt (x + n)) (Int32.ofInt_add x n).symm (by rw [← hn9]; simp only [List.length_cons]; omega) rfl (fun ls' h' => ?_)
  exact k H locs ls' hP hS (lh_set (i := 13) (v := aI (x + n)) hl hw (by simp only [List.length_cons]; omega) h')
theorem aw_icmp_eq (F : Fx X K cc own ret d U tb) {x y : Int} {off : Int} {tgt : Nat} (hd : decode cc pc = .ok (.if_icmp .eq off, 3)) (ht : (pc : Int) + off = (tgt : Int)) (hx2 : inR x) (hy : inR y) (kt : x = y → AW X K tgt lv st (M, Rf) u Q) (kf : ¬ x = y → AW X K (pc + 3) lv st (M, Rf) u Q) : AW X K pc lv (aI y :: aI x :: st) (M, Rf) u Q := by
  obtain ⟨p, l, e, R, s, m, args, below, meth, c⟩ := X
  obtain ⟨g, cy, A, nL, ρ, L⟩ := K
  obtain ⟨hx, hb, hml, hown, hts, hK, hnd, hD, hA, hlk, hret, hR, htr, hZ, hE⟩ := F
  obtain ⟨hE1, rfl⟩ := hE
  intro H locs ls hP hS hl
  exact lv_icmp_eq hx hb hd ht (fun h => kt ((oi_eq hx2 hy).mp h) H locs ls hP hS hl) (fun h => kf (fun z => h (by rw [z])) H locs ls hP hS hl)
theorem aw_icmp_ne (F : Fx X K cc own ret d U tb) {x y : Int} {off : Int} {tgt : Nat} (hd : decode cc pc = .ok (.if_icmp .ne off, 3)) (ht : (pc : Int) + off = (tgt : Int)) (hx2 : inR x) (hy : inR y) (kt : ¬ x = y → AW X K tgt lv st (M, Rf) u Q) (kf : x = y → AW X K (pc + 3) lv st (M, Rf) u Q) : AW X K pc lv (aI y :: aI x :: st) (M, Rf) u Q := by
  obtain ⟨p, l, e, R, s, m, args, below, meth, c⟩ := X
  obtain ⟨g, cy, A, nL, ρ, L⟩ := K
  obtain ⟨hx, hb, hml, hown, hts, hK, hnd, hD, hA, hlk, hret, hR, htr, hZ, hE⟩ := F
  obtain ⟨hE1, rfl⟩ := hE
  intro H locs ls hP hS hl
  exact lv_icmp_ne hx hb hd ht (fun h => kt (fun z => h (by rw [z])) H locs ls hP hS hl) (fun h => kf ((oi_eq hx2 hy).mp h) H locs ls hP hS hl)
theorem aw_icmp_lt (F : Fx X K cc own ret d U tb) {x y : Int} {off : Int} {tgt : Nat} (hd : decode cc pc = .ok (.if_icmp .lt off, 3)) (ht : (pc : Int) + off = (tgt : Int)) (hx2 : inR x) (hy : inR y) (kt : x < y → AW X K tgt lv st (M, Rf) u Q) (kf : y ≤ x → AW X K (pc + 3) lv st (M, Rf) u Q) : AW X K pc lv (aI y :: aI x :: st) (M, Rf) u Q := by
  obtain ⟨p, l, e, R, s, m, args, below, meth, c⟩ := X
  obtain ⟨g, cy, A, nL, ρ, L⟩ := K
  obtain ⟨hx, hb, hml, hown, hts, hK, hnd, hD, hA, hlk, hret, hR, htr, hZ, hE⟩ := F
  obtain ⟨hE1, rfl⟩ := hE
  intro H locs ls hP hS hl
  exact lv_icmp_lt hx hb hd ht (fun h => kt ((oi_lt hx2 hy).mp h) H locs ls hP hS hl) (fun h => kf (Int.not_lt.mp (fun z => h ((oi_lt hx2 hy).mpr z))) H locs ls hP hS hl)
theorem aw_icmp_ge (F : Fx X K cc own ret d U tb) {x y : Int} {off : Int} {tgt : Nat} (hd : decode cc pc = .ok (.if_icmp .ge off, 3)) (ht : (pc : Int) + off = (tgt : Int)) (hx2 : inR x) (hy : inR y) (kt : y ≤ x → AW X K tgt lv st (M, Rf) u Q) (kf : x < y → AW X K (pc + 3) lv st (M, Rf) u Q) : AW X K pc lv (aI y :: aI x :: st) (M, Rf) u Q := by
  obtain ⟨p, l, e, R, s, m, args, below, meth, c⟩ := X
  obtain ⟨g, cy, A, nL, ρ, L⟩ := K
  obtain ⟨hx, hb, hml, hown, hts, hK, hnd, hD, hA, hlk, hret, hR, htr, hZ, hE⟩ := F
  obtain ⟨hE1, rfl⟩ := hE
  intro H locs ls hP hS hl
  exact lv_icmp_ge hx hb hd ht (fun h => kt ((oi_le hy hx2).mp h) H locs ls hP hS hl) (fun h => kf (Int.not_le.mp (fun z => h ((oi_le hy hx2).mpr z))) H locs ls hP hS hl)
theorem aw_icmp_gt (F : Fx X K cc own ret d U tb) {x y : Int} {off : Int} {tgt : Nat} (hd : decode cc pc = .ok (.if_icmp .gt off, 3)) (ht : (pc : Int) + off = (tgt : Int)) (hx2 : inR x) (hy : inR y) (kt : y < x → AW X K tgt lv st (M, Rf) u Q) (kf : x ≤ y → AW X K (pc + 3) lv st (M, Rf) u Q) : AW X K pc lv (aI y :: aI x :: st) (M, Rf) u Q := by
  obtain ⟨p, l, e, R, s, m, args, below, meth, c⟩ := X
  obtain ⟨g, cy, A, nL, ρ, L⟩ := K
  obtain ⟨hx, hb, hml, hown, hts, hK, hnd, hD, hA, hlk, hret, hR, htr, hZ, hE⟩ := F
  obtain ⟨hE1, rfl⟩ := hE
  intro H locs ls hP hS hl
  exact lv_icmp_gt hx hb hd ht (fun h => kt ((oi_lt hy hx2).mp h) H locs ls hP hS hl) (fun h => kf (Int.not_lt.mp (fun z => h ((oi_lt hy hx2).mpr z))) H locs ls hP hS hl)
theorem aw_icmp_le (F : Fx X K cc own ret d U tb) {x y : Int} {off : Int} {tgt : Nat} (hd : decode cc pc = .ok (.if_icmp .le off, 3)) (ht : (pc : Int) + off = (tgt : Int)) (hx2 : inR x) (hy : inR y) (kt : x ≤ y → AW X K tgt lv st (M, Rf) u Q) (kf : y < x → AW X K (pc + 3) lv st (M, Rf) u Q) : AW X K pc lv (aI y :: aI x :: st) (M, Rf) u Q := by
  obtain ⟨p, l, e, R, s, m, args, below, meth, c⟩ := X
  obtain ⟨g, cy, A, nL, ρ, L⟩ := K
  obtain ⟨hx, hb, hml, hown, hts, hK, hnd, hD, hA, hlk, hret, hR, htr, hZ, hE⟩ := F
  obtain ⟨hE1, rfl⟩ := hE
  intro H locs ls hP hS hl
  exact lv_icmp_le hx hb hd ht (fun h => kt ((oi_le hx2 hy).mp h) H locs ls hP hS hl) (fun h => kf (Int.not_le.mp (fun z => h ((oi_le hx2 hy).mpr z))) H locs ls hP hS hl)
theorem aw_if_eq (F : Fx X K cc own ret d U tb) {x : Int} {off : Int} {tgt : Nat} (hd : decode cc pc = .ok (.ifCond .eq off, 3)) (ht : (pc : Int) + off = (tgt : Int)) (hx2 : inR x) (kt : x = 0 → AW X K tgt lv st (M, Rf) u Q) (kf : ¬ x = 0 → AW X K (pc + 3) lv st (M, Rf) u Q) : AW X K pc lv (aI x :: st) (M, Rf) u Q := by
  obtain ⟨p, l, e, R, s, m, args, below, meth, c⟩ := X
  obtain ⟨g, cy, A, nL, ρ, L⟩ := K
  obtain ⟨hx, hb, hml, hown, hts, hK, hnd, hD, hA, hlk, hret, hR, htr, hZ, hE⟩ := F
  obtain ⟨hE1, rfl⟩ := hE
  intro H locs ls hP hS hl
  exact lv_if_eq hx hb hd ht (fun h => kt ((oi_eq hx2 inR0).mp h) H locs ls hP hS hl) (fun h => kf (fun z => h (by rw [z]; rfl)) H locs ls hP hS hl)
theorem aw_if_ne (F : Fx X K cc own ret d U tb) {x : Int} {off : Int} {tgt : Nat} (hd : decode cc pc = .ok (.ifCond .ne off, 3)) (ht : (pc : Int) + off = (tgt : Int)) (hx2 : inR x) (kt : ¬ x = 0 → AW X K tgt lv st (M, Rf) u Q) (kf : x = 0 → AW X K (pc + 3) lv st (M, Rf) u Q) : AW X K pc lv (aI x :: st) (M, Rf) u Q := by
  obtain ⟨p, l, e, R, s, m, args, below, meth, c⟩ := X
  obtain ⟨g, cy, A, nL, ρ, L⟩ := K
  obtain ⟨hx, hb, hml, hown, hts, hK, hnd, hD, hA, hlk, hret, hR, htr, hZ, hE⟩ := F
  obtain ⟨hE1, rfl⟩ := hE
  intro H locs ls hP hS hl
  exact lv_if_ne hx hb hd ht (fun h => kt (fun z => h (by rw [z]; rfl)) H locs ls hP hS hl) (fun h => kf ((oi_eq hx2 inR0).mp h) H locs ls hP hS hl)
theorem aw_if_lt (F : Fx X K cc own ret d U tb) {x : Int} {off : Int} {tgt : Nat} (hd : decode cc pc = .ok (.ifCond .lt off, 3)) (ht : (pc : Int) + off = (tgt : Int)) (hx2 : inR x) (kt : x < 0 → AW X K tgt lv st (M, Rf) u Q) (kf : 0 ≤ x → AW X K (pc + 3) lv st (M, Rf) u Q) : AW X K pc lv (aI x :: st) (M, Rf) u Q := by
  obtain ⟨p, l, e, R, s, m, args, below, meth, c⟩ := X
  obtain ⟨g, cy, A, nL, ρ, L⟩ := K
  obtain ⟨hx, hb, hml, hown, hts, hK, hnd, hD, hA, hlk, hret, hR, htr, hZ, hE⟩ := F
  obtain ⟨hE1, rfl⟩ := hE
  intro H locs ls hP hS hl
  exact lv_if_lt hx hb hd ht (fun h => kt ((oi_lt hx2 inR0).mp h) H locs ls hP hS hl) (fun h => kf (Int.not_lt.mp (fun z => h ((oi_lt hx2 inR0).mpr z))) H locs ls hP hS hl)
theorem aw_if_ge (F : Fx X K cc own ret d U tb) {x : Int} {off : Int} {tgt : Nat} (hd : decode cc pc = .ok (.ifCond .ge off, 3)) (ht : (pc : Int) + off = (tgt : Int)) (hx2 : inR x) (kt : 0 ≤ x → AW X K tgt lv st (M, Rf) u Q) (kf : x < 0 → AW X K (pc + 3) lv st (M, Rf) u Q) : AW X K pc lv (aI x :: st) (M, Rf) u Q := by
  obtain ⟨p, l, e, R, s, m, args, below, meth, c⟩ := X
  obtain ⟨g, cy, A, nL, ρ, L⟩ := K
  obtain ⟨hx, hb, hml, hown, hts, hK, hnd, hD, hA, hlk, hret, hR, htr, hZ, hE⟩ := F
  obtain ⟨hE1, rfl⟩ := hE
  intro H locs ls hP hS hl
  exact lv_if_ge hx hb hd ht (fun h => kt ((oi_le inR0 hx2).mp h) H locs ls hP hS hl) (fun h => kf (Int.not_le.mp (fun z => h ((oi_le inR0 hx2).mpr z))) H locs ls hP hS hl)
theorem aw_if_gt (F : Fx X K cc own ret d U tb) {x : Int} {off : Int} {tgt : Nat} (hd : decode cc pc = .ok (.ifCond .gt off, 3)) (ht : (pc : Int) + off = (tgt : Int)) (hx2 : inR x) (kt : 0 < x → AW X K tgt lv st (M, Rf) u Q) (kf : x ≤ 0 → AW X K (pc + 3) lv st (M, Rf) u Q) : AW X K pc lv (aI x :: st) (M, Rf) u Q := by
  obtain ⟨p, l, e, R, s, m, args, below, meth, c⟩ := X
  obtain ⟨g, cy, A, nL, ρ, L⟩ := K
  obtain ⟨hx, hb, hml, hown, hts, hK, hnd, hD, hA, hlk, hret, hR, htr, hZ, hE⟩ := F
  obtain ⟨hE1, rfl⟩ := hE
  intro H locs ls hP hS hl
  exact lv_if_gt hx hb hd ht (fun h => kt ((oi_lt inR0 hx2).mp h) H locs ls hP hS hl) (fun h => kf (Int.not_lt.mp (fun z => h ((oi_lt inR0 hx2).mpr z))) H locs ls hP hS hl)
theorem aw_if_le (F : Fx X K cc own ret d U tb) {x : Int} {off : Int} {tgt : Nat} (hd : decode cc pc = .ok (.ifCond .le off, 3)) (ht : (pc : Int) + off = (tgt : Int)) (hx2 : inR x) (kt : x ≤ 0 → AW X K tgt lv st (M, Rf) u Q) (kf : 0 < x → AW X K (pc + 3) lv st (M, Rf) u Q) : AW X K pc lv (aI x :: st) (M, Rf) u Q := by
  obtain ⟨p, l, e, R, s, m, args, below, meth, c⟩ := X
  obtain ⟨g, cy, A, nL, ρ, L⟩ := K
  obtain ⟨hx, hb, hml, hown, hts, hK, hnd, hD, hA, hlk, hret, hR, htr, hZ, hE⟩ := F
  obtain ⟨hE1, rfl⟩ := hE
  intro H locs ls hP hS hl
  exact lv_if_le hx hb hd ht (fun h => kt ((oi_le hx2 inR0).mp h) H locs ls hP hS hl) (fun h => kf (Int.not_le.mp (fun z => h ((oi_le hx2 inR0).mpr z))) H locs ls hP hS hl)
theorem aw_ifb_eq (F : Fx X K cc own ret d U tb) {c9 : Prop} [Decidable c9] {off : Int} {tgt : Nat} (hd : decode cc pc = .ok (.ifCond .eq off, 3)) (ht : (pc : Int) + off = (tgt : Int)) (kt : ¬ c9 → AW X K tgt lv st (M, Rf) u Q) (kf : c9 → AW X K (pc + 3) lv st (M, Rf) u Q) : AW X K pc lv (aI (b2i c9) :: st) (M, Rf) u Q := by
  obtain ⟨p, l, e, R, s, m, args, below, meth, c⟩ := X
  obtain ⟨g, cy, A, nL, ρ, L⟩ := K
  obtain ⟨hx, hb, hml, hown, hts, hK, hnd, hD, hA, hlk, hret, hR, htr, hZ, hE⟩ := F
  obtain ⟨hE1, rfl⟩ := hE
  intro H locs ls hP hS hl
  exact lv_if_eq hx hb hd ht (fun h => kt (fun z => by rw [b2i_pos z] at h; exact absurd h (by decide)) H locs ls hP hS hl) (fun h => kf (Classical.byContradiction fun z => h (by rw [b2i_neg z]; rfl)) H locs ls hP hS hl)
theorem aw_ifb_ne (F : Fx X K cc own ret d U tb) {c9 : Prop} [Decidable c9] {off : Int} {tgt : Nat} (hd : decode cc pc = .ok (.ifCond .ne off, 3)) (ht : (pc : Int) + off = (tgt : Int)) (kt : c9 → AW X K tgt lv st (M, Rf) u Q) (kf : ¬ c9 → AW X K (pc + 3) lv st (M, Rf) u Q) : AW X K pc lv (aI (b2i c9) :: st) (M, Rf) u Q := by
  obtain ⟨p, l, e, R, s, m, args, below, meth, c⟩ := X
  obtain ⟨g, cy, A, nL, ρ, L⟩ := K
  obtain ⟨hx, hb, hml, hown, hts, hK, hnd, hD, hA, hlk, hret, hR, htr, hZ, hE⟩ := F
  obtain ⟨hE1, rfl⟩ := hE
  intro H locs ls hP hS hl
  exact lv_if_ne hx hb hd ht (fun h => kt (Classical.byContradiction fun z => h (by rw [b2i_neg z]; rfl)) H locs ls hP hS hl) (fun h => kf (fun z => by rw [b2i_pos z] at h; exact absurd h (by decide)) H locs ls hP hS hl)
theorem aw_goto (F : Fx X K cc own ret d U tb) {off : Int} {tgt : Nat} (hd : decode cc pc = .ok (.goto off, 3)) (ht : (pc : Int) + off = (tgt : Int)) (k : AW X K tgt lv st (M, Rf) u Q) : AW X K pc lv st (M, Rf) u Q := by
  obtain ⟨p, l, e, R, s, m, args, below, meth, c⟩ := X
  obtain ⟨g, cy, A, nL, ρ, L⟩ := K
  obtain ⟨hx, hb, hml, hown, hts, hK, hnd, hD, hA, hlk, hret, hR, htr, hZ, hE⟩ := F
  obtain ⟨hE1, rfl⟩ := hE
  intro H locs ls hP hS hl
  exact lv_goto hx hb hd ht (k H locs ls hP hS hl)
theorem aw_getI (F : Fx X K cc own ret d U tb) {q : Id4} {t f idx : Nat} {fz : Int}  (hd : decode cc pc = .ok (.getfield idx, 3)) (hf : FL own idx t f) (hk : kd q = .inl t) (hm : inB q) (hr : rfF t f = false) (hz : (f : Int) = fz) (k : AW X K (pc + 3) lv (aI (M q fz) :: st) (M, Rf) u Q) : AW X K pc lv (aR q :: st) (M, Rf) u Q := by
  obtain ⟨p, l, e, R, s, m, args, below, meth, c⟩ := X
  obtain ⟨g, cy, A, nL, ρ, L⟩ := K
  obtain ⟨hx, hb, hml, hown, hts, hK, hnd, hD, hA, hlk, hret, hR, htr, hZ, hE⟩ := F
  obtain ⟨hE1, rfl⟩ := hE
  intro H locs ls hP hS hl
  subst hz
  obtain ⟨r, hr1, hr2, hr3, hr4⟩ := hf
  obtain ⟨i, hi, hi2⟩ := ws_at (ρ := ρ) (cy := cy) (σ := (M, Rf)) (memL (by rw [hk]; intro z; cases z; exact absurd (vw_lt hr1) (by decide)) hm)
  rw [ent_obj hk] at hi2
  exact va_get (fs := flds ρ (M, Rf) q t) hx hb hts (clsOK t r hr1).2 hown hK hP i hi2 hr1 f hr2 (hts _ hr4) (fun _ h => h) (fl_int (by omega) hr) hd (k H locs ls hP hS hl)
theorem aw_getR (F : Fx X K cc own ret d U tb) {q : Id4} {t f idx : Nat} {fz : Int}  {q2 : Id4} (hd : decode cc pc = .ok (.getfield idx, 3)) (hf : FL own idx t f) (hk : kd q = .inl t) (hm : inB q) (hr : rfF t f = true) (hz : (f : Int) = fz) (hq : Rf q fz = some q2) (k : AW X K (pc + 3) lv (aR q2 :: st) (M, Rf) u Q) : AW X K pc lv (aR q :: st) (M, Rf) u Q := by
  obtain ⟨p, l, e, R, s, m, args, below, meth, c⟩ := X
  obtain ⟨g, cy, A, nL, ρ, L⟩ := K
  obtain ⟨hx, hb, hml, hown, hts, hK, hnd, hD, hA, hlk, hret, hR, htr, hZ, hE⟩ := F
  obtain ⟨hE1, rfl⟩ := hE
  intro H locs ls hP hS hl
  subst hz
  obtain ⟨r, hr1, hr2, hr3, hr4⟩ := hf
  obtain ⟨i, hi, hi2⟩ := ws_at (ρ := ρ) (cy := cy) (σ := (M, Rf)) (memL (by rw [hk]; intro z; cases z; exact absurd (vw_lt hr1) (by decide)) hm)
  rw [ent_obj hk] at hi2
  exact va_get (fs := flds ρ (M, Rf) q t) hx hb hts (clsOK t r hr1).2 hown hK hP i hi2 hr1 f hr2 (hts _ hr4) (fun _ h => h) (fl_ref (by omega) hr hq) hd (k H locs ls hP hS hl)
theorem aw_putI (F : Fx X K cc own ret d U tb) {q : Id4} {t f idx : Nat} {fz : Int}  {x : Int} (hd : decode cc pc = .ok (.putfield idx, 3)) (hf : FL own idx t f) (hg : FPI t f) (hk : kd q = .inl t) (hm : inB q) (hr : rfF t f = false) (hz : (f : Int) = fz) (k : AW X K (pc + 3) lv st (updM M q fz x, Rf) u Q) : AW X K pc lv (aI x :: aR q :: st) (M, Rf) u Q := by
  obtain ⟨p, l, e, R, s, m, args, below, meth, c⟩ := X
  obtain ⟨g, cy, A, nL, ρ, L⟩ := K
  obtain ⟨hx, hb, hml, hown, hts, hK, hnd, hD, hA, hlk, hret, hR, htr, hZ, hE⟩ := F
  obtain ⟨hE1, rfl⟩ := hE
  intro H locs ls hP hS hl
  subst hz
  obtain ⟨r, hr1, hr2, hr3, hr4⟩ := hf
  obtain ⟨i, hi, hi2⟩ := ws_at (ρ := ρ) (cy := cy) (σ := (M, Rf)) (memL (by rw [hk]; intro z; cases z; exact absurd (vw_lt hr1) (by decide)) hm)
  rw [ent_obj hk] at hi2
  obtain ⟨ty0, hty, hnm⟩ := (clsOK t r hr1).1
  obtain ⟨hg1, hg2⟩ := hg r hr1
  refine va_put (fs := flds ρ (M, Rf) q t) hx hb hts (clsOK t r hr1).2 ty0 hty hnm hown hK hP (wsD hD (M, Rf)) hS i hi2 hr1 f hr2 (hts _ hr4) (fun _ h => h) hg1 hg2 rfl rfl (by rw [fl_len]; omega) hd (fun H1 locs1 hP1 hD1 hS1 => ?_)
  have e9 := ws_set (ρ := ρ) (cy := cy) (σ := (M, Rf)) (σ' := (updM M q (f : Int) x, Rf)) hnd hi (ent_fld (σ := (M, Rf)) hk hr) (fun q' h => ent_ne (σ := (M, Rf)) h)
  exact k H1 locs1 ls (e9 ▸ hP1) hS1 hl
theorem aw_iald (F : Fx X K cc own ret d U tb) {q : Id4} {n : Nat} {i : Int}  (hd : decode cc pc = .ok (.iaload, 1)) (hk : kd q = .inr (0, n)) (hm : inB q) (hi : 0 ≤ i ∧ i < n) (k : AW X K (pc + 1) lv (aI (M q i) :: st) (M, Rf) u Q) : AW X K pc lv (aI i :: aR q :: st) (M, Rf) u Q := by
  obtain ⟨p, l, e, R, s, m, args, below, meth, c⟩ := X
  obtain ⟨g, cy, A, nL, ρ, L⟩ := K
  obtain ⟨hx, hb, hml, hown, hts, hK, hnd, hD, hA, hlk, hret, hR, htr, hZ, hE⟩ := F
  obtain ⟨hE1, rfl⟩ := hE
  intro H locs ls hP hS hl
  obtain ⟨j, hj, hj2⟩ := ws_at (ρ := ρ) (cy := cy) (σ := (M, Rf)) (memL (by rw [hk]; intro z; cases z) hm)
  rw [ent_arr hk] at hj2
  have hs := (kd_small hk hm).1
  refine va_iald (f := fun z => Int32.ofInt (M q (z : Int))) hx hb hK hP j 0 hj2 rfl (oi_in hi.1 hi.2 (by omega)) hd ?_
  have e : Int32.ofInt (M q (((Int32.ofInt i).toNatClampNeg : Nat) : Int)) = Int32.ofInt (M q i) := by rw [oi_nat hi.1 (by omega), Int.toNat_of_nonneg hi.1]
  rw [e]
  exact k H locs ls hP hS hl
theorem aw_bald (F : Fx X K cc own ret d U tb) {q : Id4} {n : Nat} {i : Int}  (hd : decode cc pc = .ok (.baload, 1)) (hk : kd q = .inr (1, n)) (hm : inB q) (hi : 0 ≤ i ∧ i < n) (k : AW X K (pc + 1) lv (aI (M q i) :: st) (M, Rf) u Q) : AW X K pc lv (aI i :: aR q :: st) (M, Rf) u Q := by
  obtain ⟨p, l, e, R, s, m, args, below, meth, c⟩ := X
  obtain ⟨g, cy, A, nL, ρ, L⟩ := K
  obtain ⟨hx, hb, hml, hown, hts, hK, hnd, hD, hA, hlk, hret, hR, htr, hZ, hE⟩ := F
  obtain ⟨hE1, rfl⟩ := hE
  intro H locs ls hP hS hl
  obtain ⟨j, hj, hj2⟩ := ws_at (ρ := ρ) (cy := cy) (σ := (M, Rf)) (memL (by rw [hk]; intro z; cases z) hm)
  rw [ent_arr hk] at hj2
  have hs := (kd_small hk hm).1
  refine va_bald (f := fun z => Int32.ofInt (M q (z : Int))) hx hb hK hP j 1 hj2 rfl (oi_in hi.1 hi.2 (by omega)) hd ?_
  have e : Int32.ofInt (M q (((Int32.ofInt i).toNatClampNeg : Nat) : Int)) = Int32.ofInt (M q i) := by rw [oi_nat hi.1 (by omega), Int.toNat_of_nonneg hi.1]
  rw [e]
  exact k H locs ls hP hS hl
theorem aw_zald (F : Fx X K cc own ret d U tb) {q : Id4} {n : Nat} {i : Int}  (hd : decode cc pc = .ok (.baload, 1)) (hk : kd q = .inr (2, n)) (hm : inB q) (hi : 0 ≤ i ∧ i < n) (k : AW X K (pc + 1) lv (aI (M q i) :: st) (M, Rf) u Q) : AW X K pc lv (aI i :: aR q :: st) (M, Rf) u Q := by
  obtain ⟨p, l, e, R, s, m, args, below, meth, c⟩ := X
  obtain ⟨g, cy, A, nL, ρ, L⟩ := K
  obtain ⟨hx, hb, hml, hown, hts, hK, hnd, hD, hA, hlk, hret, hR, htr, hZ, hE⟩ := F
  obtain ⟨hE1, rfl⟩ := hE
  intro H locs ls hP hS hl
  obtain ⟨j, hj, hj2⟩ := ws_at (ρ := ρ) (cy := cy) (σ := (M, Rf)) (memL (by rw [hk]; intro z; cases z) hm)
  rw [ent_arr hk] at hj2
  have hs := (kd_small hk hm).1
  refine va_zald (f := fun z => Int32.ofInt (M q (z : Int))) hx hb hK hP j 2 hj2 rfl (oi_in hi.1 hi.2 (by omega)) hd ?_
  have e : Int32.ofInt (M q (((Int32.ofInt i).toNatClampNeg : Nat) : Int)) = Int32.ofInt (M q i) := by rw [oi_nat hi.1 (by omega), Int.toNat_of_nonneg hi.1]
  rw [e]
  exact k H locs ls hP hS hl
theorem aw_cald (F : Fx X K cc own ret d U tb) {q : Id4} {n : Nat} {i : Int}  (hd : decode cc pc = .ok (.caload, 1)) (hk : kd q = .inr (3, n)) (hm : inB q) (hi : 0 ≤ i ∧ i < n) (k : AW X K (pc + 1) lv (aI (M q i) :: st) (M, Rf) u Q) : AW X K pc lv (aI i :: aR q :: st) (M, Rf) u Q := by
  obtain ⟨p, l, e, R, s, m, args, below, meth, c⟩ := X
  obtain ⟨g, cy, A, nL, ρ, L⟩ := K
  obtain ⟨hx, hb, hml, hown, hts, hK, hnd, hD, hA, hlk, hret, hR, htr, hZ, hE⟩ := F
  obtain ⟨hE1, rfl⟩ := hE
  intro H locs ls hP hS hl
  obtain ⟨j, hj, hj2⟩ := ws_at (ρ := ρ) (cy := cy) (σ := (M, Rf)) (memL (by rw [hk]; intro z; cases z) hm)
  rw [ent_arr hk] at hj2
  have hs := (kd_small hk hm).1
  refine va_cald (f := fun z => Int32.ofInt (M q (z : Int))) hx hb hK hP j 3 hj2 rfl (oi_in hi.1 hi.2 (by omega)) hd ?_
  have e : Int32.ofInt (M q (((Int32.ofInt i).toNatClampNeg : Nat) : Int)) = Int32.ofInt (M q i) := by rw [oi_nat hi.1 (by omega), Int.toNat_of_nonneg hi.1]
  rw [e]
  exact k H locs ls hP hS hl
theorem aw_iast (F : Fx X K cc own ret d U tb) {q : Id4} {n : Nat} {i : Int}  {x : Int} (hd : decode cc pc = .ok (.iastore, 1)) (hk : kd q = .inr (0, n)) (hm : inB q) (hi : 0 ≤ i ∧ i < n) (k : AW X K (pc + 1) lv st (updM M q i x, Rf) u Q) : AW X K pc lv (aI x :: aI i :: aR q :: st) (M, Rf) u Q := by
  obtain ⟨p, l, e, R, s, m, args, below, meth, c⟩ := X
  obtain ⟨g, cy, A, nL, ρ, L⟩ := K
  obtain ⟨hx, hb, hml, hown, hts, hK, hnd, hD, hA, hlk, hret, hR, htr, hZ, hE⟩ := F
  obtain ⟨hE1, rfl⟩ := hE
  intro H locs ls hP hS hl
  obtain ⟨j, hj, hj2⟩ := ws_at (ρ := ρ) (cy := cy) (σ := (M, Rf)) (memL (by rw [hk]; intro z; cases z) hm)
  rw [ent_arr hk] at hj2
  have hs := (kd_small hk hm).1
  refine va_iast (f := fun z => Int32.ofInt (M q (z : Int))) hx hb hK hP (wsD hD (M, Rf)) hS j 0 hj2 rfl (oi_in hi.1 hi.2 (by omega)) hd (fun H1 locs1 hP1 hD1 hS1 => ?_)
  rw [ws_set hnd hj (ent_upd (σ := (M, Rf)) hk (by decide) hi.1 (by omega)) (fun q' h => ent_ne (σ := (M, Rf)) h)] at hP1
  exact k H1 locs1 ls hP1 hS1 hl
theorem aw_bast (F : Fx X K cc own ret d U tb) {q : Id4} {n : Nat} {i : Int}  {x : Int} (hd : decode cc pc = .ok (.bastore, 1)) (hk : kd q = .inr (1, n)) (hm : inB q) (hi : 0 ≤ i ∧ i < n) (hv : vp_nar .byte (Int32.ofInt x) = Int32.ofInt x) (k : AW X K (pc + 1) lv st (updM M q i x, Rf) u Q) : AW X K pc lv (aI x :: aI i :: aR q :: st) (M, Rf) u Q := by
  obtain ⟨p, l, e, R, s, m, args, below, meth, c⟩ := X
  obtain ⟨g, cy, A, nL, ρ, L⟩ := K
  obtain ⟨hx, hb, hml, hown, hts, hK, hnd, hD, hA, hlk, hret, hR, htr, hZ, hE⟩ := F
  obtain ⟨hE1, rfl⟩ := hE
  intro H locs ls hP hS hl
  obtain ⟨j, hj, hj2⟩ := ws_at (ρ := ρ) (cy := cy) (σ := (M, Rf)) (memL (by rw [hk]; intro z; cases z) hm)
  rw [ent_arr hk] at hj2
  have hs := (kd_small hk hm).1
  refine va_bast (f := fun z => Int32.ofInt (M q (z : Int))) hx hb hK hP (wsD hD (M, Rf)) hS j 1 hj2 rfl (oi_in hi.1 hi.2 (by omega)) hd (fun H1 locs1 hP1 hD1 hS1 => ?_)
  rw [hv] at hP1
  rw [ws_set hnd hj (ent_upd (σ := (M, Rf)) hk (by decide) hi.1 (by omega)) (fun q' h => ent_ne (σ := (M, Rf)) h)] at hP1
  exact k H1 locs1 ls hP1 hS1 hl
theorem aw_zast (F : Fx X K cc own ret d U tb) {q : Id4} {n : Nat} {i : Int}  {x : Int} (hd : decode cc pc = .ok (.bastore, 1)) (hk : kd q = .inr (2, n)) (hm : inB q) (hi : 0 ≤ i ∧ i < n) (hv : vp_nar .boolean (Int32.ofInt x) = Int32.ofInt x) (k : AW X K (pc + 1) lv st (updM M q i x, Rf) u Q) : AW X K pc lv (aI x :: aI i :: aR q :: st) (M, Rf) u Q := by
  obtain ⟨p, l, e, R, s, m, args, below, meth, c⟩ := X
  obtain ⟨g, cy, A, nL, ρ, L⟩ := K
  obtain ⟨hx, hb, hml, hown, hts, hK, hnd, hD, hA, hlk, hret, hR, htr, hZ, hE⟩ := F
  obtain ⟨hE1, rfl⟩ := hE
  intro H locs ls hP hS hl
  obtain ⟨j, hj, hj2⟩ := ws_at (ρ := ρ) (cy := cy) (σ := (M, Rf)) (memL (by rw [hk]; intro z; cases z) hm)
  rw [ent_arr hk] at hj2
  have hs := (kd_small hk hm).1
  refine va_zast (f := fun z => Int32.ofInt (M q (z : Int))) hx hb hK hP (wsD hD (M, Rf)) hS j 2 hj2 rfl (oi_in hi.1 hi.2 (by omega)) hd (fun H1 locs1 hP1 hD1 hS1 => ?_)
  rw [hv] at hP1
  rw [ws_set hnd hj (ent_upd (σ := (M, Rf)) hk (by decide) hi.1 (by omega)) (fun q' h => ent_ne (σ := (M, Rf)) h)] at hP1
  exact k H1 locs1 ls hP1 hS1 hl
theorem aw_cast (F : Fx X K cc own ret d U tb) {q : Id4} {n : Nat} {i : Int}  {x : Int} (hd : decode cc pc = .ok (.castore, 1)) (hk : kd q = .inr (3, n)) (hm : inB q) (hi : 0 ≤ i ∧ i < n) (hv : vp_nar .char (Int32.ofInt x) = Int32.ofInt x) (k : AW X K (pc + 1) lv st (updM M q i x, Rf) u Q) : AW X K pc lv (aI x :: aI i :: aR q :: st) (M, Rf) u Q := by
  obtain ⟨p, l, e, R, s, m, args, below, meth, c⟩ := X
  obtain ⟨g, cy, A, nL, ρ, L⟩ := K
  obtain ⟨hx, hb, hml, hown, hts, hK, hnd, hD, hA, hlk, hret, hR, htr, hZ, hE⟩ := F
  obtain ⟨hE1, rfl⟩ := hE
  intro H locs ls hP hS hl
  obtain ⟨j, hj, hj2⟩ := ws_at (ρ := ρ) (cy := cy) (σ := (M, Rf)) (memL (by rw [hk]; intro z; cases z) hm)
  rw [ent_arr hk] at hj2
  have hs := (kd_small hk hm).1
  refine va_cast (f := fun z => Int32.ofInt (M q (z : Int))) hx hb hK hP (wsD hD (M, Rf)) hS j 3 hj2 rfl (oi_in hi.1 hi.2 (by omega)) hd (fun H1 locs1 hP1 hD1 hS1 => ?_)
  rw [hv] at hP1
  rw [ws_set hnd hj (ent_upd (σ := (M, Rf)) hk (by decide) hi.1 (by omega)) (fun q' h => ent_ne (σ := (M, Rf)) h)] at hP1
  exact k H1 locs1 ls hP1 hS1 hl
theorem aw_aald (F : Fx X K cc own ret d U tb) {q : Id4} {n : Nat} {i : Int}  {q2 : Id4} {e9 : Nat} (hd : decode cc pc = .ok (.aaload, 1)) (hk : kd q = .inr (e9, n)) (he : 5 ≤ e9) (hm : inB q) (hi : 0 ≤ i ∧ i < n) (hq : Rf q i = some q2) (k : AW X K (pc + 1) lv (aR q2 :: st) (M, Rf) u Q) : AW X K pc lv (aI i :: aR q :: st) (M, Rf) u Q := by
  obtain ⟨p, l, e, R, s, m, args, below, meth, c⟩ := X
  obtain ⟨g, cy, A, nL, ρ, L⟩ := K
  obtain ⟨hx, hb, hml, hown, hts, hK, hnd, hD, hA, hlk, hret, hR, htr, hZ, hE⟩ := F
  obtain ⟨hE1, rfl⟩ := hE
  intro H locs ls hP hS hl
  obtain ⟨j, hj, hj2⟩ := ws_at (ρ := ρ) (cy := cy) (σ := (M, Rf)) (memL (by rw [hk]; intro z; cases z) hm)
  rw [ent_arrR hk he] at hj2
  have hs := kd_small hk hm
  have hin := oi_in hi.1 hi.2 (by omega)
  have hlt : (Int32.ofInt i).toNatClampNeg < n := Nat.not_le.mp fun z => hin (Or.inr z)
  have e : va_rf ((Rf q (((Int32.ofInt i).toNatClampNeg : Nat) : Int)).map ρ) = .ref (ρ q2) := by rw [oi_nat hi.1 (by omega), Int.toNat_of_nonneg hi.1, hq]; rfl
  have ht : (tysOf cy)[e9]? = some (cy e9, eT e9) := by unfold tysOf; rw [List.getElem?_map, List.getElem?_range (by omega)]; rfl
  have hrf : (eT e9).isReference = true := by rcases (show e9 = 5 ∨ e9 = 6 ∨ e9 = 7 by omega) with z | z | z <;> rw [z] <;> rfl
  refine W.aald (v := .ref (ρ q2)) (ty := eT e9) hx hb (hP j _ hj2) ((hK.2 e9 _ ht).1 n (fun z => va_rf ((Rf q (z : Int)).map ρ))) hrf (fun z => by cases z) (by show ¬ (_ < 0 ∨ (arrV _ _ _).slots.size ≤ _); rw [arrV_size]; exact hin) (by show (arrV _ _ _).slots[_]? = _; rw [arrV_read _ _ hlt]; exact congrArg some e) rfl rfl hd ?_
  exact k H locs ls hP hS hl
end ROWS
