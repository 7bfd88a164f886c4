/-! d1: one row an instruction, for the walk that makes cells -/
theorem fit_byte {x : Int} (h : -128 ≤ x ∧ x ≤ 127) : fits .byte (.int (Int32.ofInt x)) = true := by
  show (decide ((-128 : Int32) ≤ Int32.ofInt x) && decide (Int32.ofInt x ≤ (127 : Int32))) = true
  rw [Bool.and_eq_true, decide_eq_true_iff, decide_eq_true_iff]
  exact ⟨(oi_le (i := -128) (j := x) (by unfold inR; omega) (by unfold inR; omega)).mpr h.1, (oi_le (i := x) (j := 127) (by unfold inR; omega) (by unfold inR; omega)).mpr h.2⟩
section DROWS
variable {X : Cx} {G : Gd} {ρ0 : Id4 → Nat} {L0 L : List Id4} {cc : ByteArray} {own : String} {ret : Option FieldType} {d U pc u : Nat} {lv st : List AV} {M : Id4 → Int → Int} {Rf : Id4 → Int → Option Id4} {Q : State → Prop}
theorem dw_iconst (F : FD X G ρ0 cc own ret d U) {n : Int} (hd : decode cc pc = .ok (.iconst n, 1)) (k : DW X G ρ0 L0 L (pc + 1) lv (aI n :: st) (M, Rf) u Q) : DW X G ρ0 L0 L pc lv (st) (M, Rf) u Q := by
  obtain ⟨p, l, e, R, s, m, args, below, meth, c⟩ := X
  obtain ⟨g, cy, A, nL, sx⟩ := G
  obtain ⟨hx, hb, hml, hown, hts, hK, hA, hlk, hret, hR, htr, hZ, hY⟩ := F
  intro ρ hρ hLE H locs ls hP hD hI hV hT hS hl
  exact lv_iconst hx hb hd rfl (k ρ hρ hLE H locs ls hP hD hI hV hT.i hS hl)
theorem dw_bipush (F : FD X G ρ0 cc own ret d U) {n : Int} (hd : decode cc pc = .ok (.bipush n, 2)) (hv : (Int8.ofInt n).toInt32 = Int32.ofInt n) (k : DW X G ρ0 L0 L (pc + 2) lv (aI n :: st) (M, Rf) u Q) : DW X G ρ0 L0 L pc lv (st) (M, Rf) u Q := by
  obtain ⟨p, l, e, R, s, m, args, below, meth, c⟩ := X
  obtain ⟨g, cy, A, nL, sx⟩ := G
  obtain ⟨hx, hb, hml, hown, hts, hK, hA, hlk, hret, hR, htr, hZ, hY⟩ := F
  intro ρ hρ hLE H locs ls hP hD hI hV hT hS hl
  exact lv_bipush hx hb hd hv (k ρ hρ hLE H locs ls hP hD hI hV hT.i hS hl)
theorem dw_sipush (F : FD X G ρ0 cc own ret d U) {n : Int} (hd : decode cc pc = .ok (.sipush n, 3)) (hv : (Int16.ofInt n).toInt32 = Int32.ofInt n) (k : DW X G ρ0 L0 L (pc + 3) lv (aI n :: st) (M, Rf) u Q) : DW X G ρ0 L0 L pc lv (st) (M, Rf) u Q := by
  obtain ⟨p, l, e, R, s, m, args, below, meth, c⟩ := X
  obtain ⟨g, cy, A, nL, sx⟩ := G
  obtain ⟨hx, hb, hml, hown, hts, hK, hA, hlk, hret, hR, htr, hZ, hY⟩ := F
  intro ρ hρ hLE H locs ls hP hD hI hV hT hS hl
  exact lv_sipush hx hb hd hv (k ρ hρ hLE H locs ls hP hD hI hV hT.i hS hl)
theorem dw_null (F : FD X G ρ0 cc own ret d U)  (hd : decode cc pc = .ok (.aconst_null, 1)) (k : DW X G ρ0 L0 L (pc + 1) lv (aN :: st) (M, Rf) u Q) : DW X G ρ0 L0 L pc lv (st) (M, Rf) u Q := by
  obtain ⟨p, l, e, R, s, m, args, below, meth, c⟩ := X
  obtain ⟨g, cy, A, nL, sx⟩ := G
  obtain ⟨hx, hb, hml, hown, hts, hK, hA, hlk, hret, hR, htr, hZ, hY⟩ := F
  intro ρ hρ hLE H locs ls hP hD hI hV hT hS hl
  exact lv_null hx hb hd (k ρ hρ hLE H locs ls hP hD hI hV hT.n hS hl)
theorem dw_iadd (F : FD X G ρ0 cc own ret d U) {x y : Int} (hd : decode cc pc = .ok (.iadd, 1)) (k : DW X G ρ0 L0 L (pc + 1) lv (aI (x + y) :: st) (M, Rf) u Q) : DW X G ρ0 L0 L pc lv (aI y :: aI x :: st) (M, Rf) u Q := by
  obtain ⟨p, l, e, R, s, m, args, below, meth, c⟩ := X
  obtain ⟨g, cy, A, nL, sx⟩ := G
  obtain ⟨hx, hb, hml, hown, hts, hK, hA, hlk, hret, hR, htr, hZ, hY⟩ := F
  intro ρ hρ hLE H locs ls hP hD hI hV hT hS hl
  refine lv_iadd hx hb hd ?_
  rw [← Int32.ofInt_add]
  exact k ρ hρ hLE H locs ls hP hD hI hV hT.tl.tl.i hS hl
theorem dw_isub (F : FD X G ρ0 cc own ret d U) {x y : Int} (hd : decode cc pc = .ok (.isub, 1)) (k : DW X G ρ0 L0 L (pc + 1) lv (aI (x - y) :: st) (M, Rf) u Q) : DW X G ρ0 L0 L pc lv (aI y :: aI x :: st) (M, Rf) u Q := by
  obtain ⟨p, l, e, R, s, m, args, below, meth, c⟩ := X
  obtain ⟨g, cy, A, nL, sx⟩ := G
  obtain ⟨hx, hb, hml, hown, hts, hK, hA, hlk, hret, hR, htr, hZ, hY⟩ := F
  intro ρ hρ hLE H locs ls hP hD hI hV hT hS hl
  refine lv_isub hx hb hd ?_
  rw [← Int32.ofInt_sub]
  exact k ρ hρ hLE H locs ls hP hD hI hV hT.tl.tl.i hS hl
theorem dw_imul (F : FD X G ρ0 cc own ret d U) {x y : Int} (hd : decode cc pc = .ok (.imul, 1)) (k : DW X G ρ0 L0 L (pc + 1) lv (aI (x * y) :: st) (M, Rf) u Q) : DW X G ρ0 L0 L pc lv (aI y :: aI x :: st) (M, Rf) u Q := by
  obtain ⟨p, l, e, R, s, m, args, below, meth, c⟩ := X
  obtain ⟨g, cy, A, nL, sx⟩ := G
  obtain ⟨hx, hb, hml, hown, hts, hK, hA, hlk, hret, hR, htr, hZ, hY⟩ := F
  intro ρ hρ hLE H locs ls hP hD hI hV hT hS hl
  refine lv_imul hx hb hd ?_
  rw [← Int32.ofInt_mul]
  exact k ρ hρ hLE H locs ls hP hD hI hV hT.tl.tl.i hS hl
theorem dw_ineg (F : FD X G ρ0 cc own ret d U) {x : Int} (hd : decode cc pc = .ok (.ineg, 1)) (k : DW X G ρ0 L0 L (pc + 1) lv (aI (-x) :: st) (M, Rf) u Q) : DW X G ρ0 L0 L pc lv (aI x :: st) (M, Rf) u Q := by
  obtain ⟨p, l, e, R, s, m, args, below, meth, c⟩ := X
  obtain ⟨g, cy, A, nL, sx⟩ := G
  obtain ⟨hx, hb, hml, hown, hts, hK, hA, hlk, hret, hR, htr, hZ, hY⟩ := F
  intro ρ hρ hLE H locs ls hP hD hI hV hT hS hl
  refine lv_ineg hx hb hd ?_
  rw [← Int32.ofInt_neg]
  exact k ρ hρ hLE H locs ls hP hD hI hV hT.tl.i hS hl
theorem dw_idiv (F : FD X G ρ0 cc own ret d U) {x y : Int} (hd : decode cc pc = .ok (.idiv, 1)) (hx2 : inR x) (hy : inR y) (hy0 : ¬ y = 0) (hy1 : 0 ≤ y) (k : DW X G ρ0 L0 L (pc + 1) lv (aI (x.tdiv y) :: st) (M, Rf) u Q) : DW X G ρ0 L0 L pc lv (aI y :: aI x :: st) (M, Rf) u Q := by
  obtain ⟨p, l, e, R, s, m, args, below, meth, c⟩ := X
  obtain ⟨g, cy, A, nL, sx⟩ := G
  obtain ⟨hx, hb, hml, hown, hts, hK, hA, hlk, hret, hR, htr, hZ, hY⟩ := F
  intro ρ hρ hLE H locs ls hP hD hI hV hT hS hl
  refine lv_idiv hx hb hd (fun h => hy0 (oi_inj hy inR0 h)) ?_
  rw [oi_div hx2 hy (by omega)]
  exact k ρ hρ hLE H locs ls hP hD hI hV hT.tl.tl.i hS hl
theorem dw_irem (F : FD X G ρ0 cc own ret d U) {x y : Int} (hd : decode cc pc = .ok (.irem, 1)) (hx2 : inR x) (hy : inR y) (hy0 : ¬ y = 0) (hy1 : 0 ≤ y) (k : DW X G ρ0 L0 L (pc + 1) lv (aI (x.tmod y) :: st) (M, Rf) u Q) : DW X G ρ0 L0 L pc lv (aI y :: aI x :: st) (M, Rf) u Q := by
  obtain ⟨p, l, e, R, s, m, args, below, meth, c⟩ := X
  obtain ⟨g, cy, A, nL, sx⟩ := G
  obtain ⟨hx, hb, hml, hown, hts, hK, hA, hlk, hret, hR, htr, hZ, hY⟩ := F
  intro ρ hρ hLE H locs ls hP hD hI hV hT hS hl
  refine lv_irem hx hb hd (fun h => hy0 (oi_inj hy inR0 h)) ?_
  have e9 : Int32.ofInt x - Int32.ofInt x / Int32.ofInt y * Int32.ofInt y = Int32.ofInt (x.tmod y) := by rw [oi_div hx2 hy hy1, ← Int32.ofInt_mul, ← Int32.ofInt_sub, Int.tmod_def, Int.mul_comm y]
  rw [e9]
  exact k ρ hρ hLE H locs ls hP hD hI hV hT.tl.tl.i hS hl
theorem dw_ishl (F : FD X G ρ0 cc own ret d U) {x y : Int} (hd : decode cc pc = .ok (.ishl, 1)) (k : DW X G ρ0 L0 L (pc + 1) lv (aI (bShl x y) :: st) (M, Rf) u Q) : DW X G ρ0 L0 L pc lv (aI y :: aI x :: st) (M, Rf) u Q := by
  obtain ⟨p, l, e, R, s, m, args, below, meth, c⟩ := X
  obtain ⟨g, cy, A, nL, sx⟩ := G
  obtain ⟨hx, hb, hml, hown, hts, hK, hA, hlk, hret, hR, htr, hZ, hY⟩ := F
  intro ρ hρ hLE H locs ls hP hD hI hV hT hS hl
  refine lv_ishl hx hb hd ?_
  rw [← Int32.ofInt_toInt (Int32.ofInt x <<< (Int32.ofInt y &&& 31))]
  exact k ρ hρ hLE H locs ls hP hD hI hV hT.tl.tl.i hS hl
theorem dw_ishr (F : FD X G ρ0 cc own ret d U) {x y : Int} (hd : decode cc pc = .ok (.ishr, 1)) (k : DW X G ρ0 L0 L (pc + 1) lv (aI (bShr x y) :: st) (M, Rf) u Q) : DW X G ρ0 L0 L pc lv (aI y :: aI x :: st) (M, Rf) u Q := by
  obtain ⟨p, l, e, R, s, m, args, below, meth, c⟩ := X
  obtain ⟨g, cy, A, nL, sx⟩ := G
  obtain ⟨hx, hb, hml, hown, hts, hK, hA, hlk, hret, hR, htr, hZ, hY⟩ := F
  intro ρ hρ hLE H locs ls hP hD hI hV hT hS hl
  refine lv_ishr hx hb hd ?_
  rw [← Int32.ofInt_toInt (Int32.ofInt x >>> (Int32.ofInt y &&& 31))]
  exact k ρ hρ hLE H locs ls hP hD hI hV hT.tl.tl.i hS hl
theorem dw_iand (F : FD X G ρ0 cc own ret d U) {x y : Int} (hd : decode cc pc = .ok (.iand, 1)) (k : DW X G ρ0 L0 L (pc + 1) lv (aI (bAnd x y) :: st) (M, Rf) u Q) : DW X G ρ0 L0 L pc lv (aI y :: aI x :: st) (M, Rf) u Q := by
  obtain ⟨p, l, e, R, s, m, args, below, meth, c⟩ := X
  obtain ⟨g, cy, A, nL, sx⟩ := G
  obtain ⟨hx, hb, hml, hown, hts, hK, hA, hlk, hret, hR, htr, hZ, hY⟩ := F
  intro ρ hρ hLE H locs ls hP hD hI hV hT hS hl
  refine lv_iand hx hb hd ?_
  rw [← Int32.ofInt_toInt (Int32.ofInt x &&& Int32.ofInt y)]
  exact k ρ hρ hLE H locs ls hP hD hI hV hT.tl.tl.i hS hl
theorem dw_ior (F : FD X G ρ0 cc own ret d U) {x y : Int} (hd : decode cc pc = .ok (.ior, 1)) (k : DW X G ρ0 L0 L (pc + 1) lv (aI (bOr x y) :: st) (M, Rf) u Q) : DW X G ρ0 L0 L pc lv (aI y :: aI x :: st) (M, Rf) u Q := by
  obtain ⟨p, l, e, R, s, m, args, below, meth, c⟩ := X
  obtain ⟨g, cy, A, nL, sx⟩ := G
  obtain ⟨hx, hb, hml, hown, hts, hK, hA, hlk, hret, hR, htr, hZ, hY⟩ := F
  intro ρ hρ hLE H locs ls hP hD hI hV hT hS hl
  refine lv_ior hx hb hd ?_
  rw [← Int32.ofInt_toInt (Int32.ofInt x ||| Int32.ofInt y)]
  exact k ρ hρ hLE H locs ls hP hD hI hV hT.tl.tl.i hS hl
theorem dw_i2c (F : FD X G ρ0 cc own ret d U) {x : Int} (hd : decode cc pc = .ok (.i2c, 1)) (h0 : 0 ≤ x) (h1 : x < 65536) (k : DW X G ρ0 L0 L (pc + 1) lv (aI x :: st) (M, Rf) u Q) : DW X G ρ0 L0 L pc lv (aI x :: st) (M, Rf) u Q := by
  obtain ⟨p, l, e, R, s, m, args, below, meth, c⟩ := X
  obtain ⟨g, cy, A, nL, sx⟩ := G
  obtain ⟨hx, hb, hml, hown, hts, hK, hA, hlk, hret, hR, htr, hZ, hY⟩ := F
  intro ρ hρ hLE H locs ls hP hD hI hV hT hS hl
  have e : ((Int32.ofInt x).toUInt32 % 65536).toInt32 = Int32.ofInt x := oi_char h0 h1
  exact lv_i2c hx hb hd e (k ρ hρ hLE H locs ls hP hD hI hV hT.tl.i hS hl)
theorem dw_i2f (F : FD X G ρ0 cc own ret d U) {x : Int} (hd : decode cc pc = .ok (.i2f, 1)) (k : DW X G ρ0 L0 L (pc + 1) lv (aF (FP.i2f (Int32.ofInt x)) :: st) (M, Rf) u Q) : DW X G ρ0 L0 L pc lv (aI x :: st) (M, Rf) u Q := by
  obtain ⟨p, l, e, R, s, m, args, below, meth, c⟩ := X
  obtain ⟨g, cy, A, nL, sx⟩ := G
  obtain ⟨hx, hb, hml, hown, hts, hK, hA, hlk, hret, hR, htr, hZ, hY⟩ := F
  intro ρ hρ hLE H locs ls hP hD hI hV hT hS hl
  exact lv_i2f hx hb hd (k ρ hρ hLE H locs ls hP hD hI hV hT.tl.f hS hl)
theorem dw_fconst0 (F : FD X G ρ0 cc own ret d U)  (hd : decode cc pc = .ok (.fconst 0, 1)) (k : DW X G ρ0 L0 L (pc + 1) lv (aF FP.fconst0 :: st) (M, Rf) u Q) : DW X G ρ0 L0 L pc lv (st) (M, Rf) u Q := by
  obtain ⟨p, l, e, R, s, m, args, below, meth, c⟩ := X
  obtain ⟨g, cy, A, nL, sx⟩ := G
  obtain ⟨hx, hb, hml, hown, hts, hK, hA, hlk, hret, hR, htr, hZ, hY⟩ := F
  intro ρ hρ hLE H locs ls hP hD hI hV hT hS hl
  exact lv_fconst0 hx hb hd (k ρ hρ hLE H locs ls hP hD hI hV hT.f hS hl)
theorem dw_fdiv (F : FD X G ρ0 cc own ret d U) {x y : UInt32} (hd : decode cc pc = .ok (.fdiv, 1)) (hne : vf_n32 (FP.fdiv x y)) (k : DW X G ρ0 L0 L (pc + 1) lv (aF (FP.fdiv x y) :: st) (M, Rf) u Q) : DW X G ρ0 L0 L pc lv (aF y :: aF x :: st) (M, Rf) u Q := by
  obtain ⟨p, l, e, R, s, m, args, below, meth, c⟩ := X
  obtain ⟨g, cy, A, nL, sx⟩ := G
  obtain ⟨hx, hb, hml, hown, hts, hK, hA, hlk, hret, hR, htr, hZ, hY⟩ := F
  intro ρ hρ hLE H locs ls hP hD hI hV hT hS hl
  exact lv_fdiv hx hb hd hne (k ρ hρ hLE H locs ls hP hD hI hV hT.tl.tl.f hS hl)
theorem dw_fcmpl (F : FD X G ρ0 cc own ret d U) {x y : UInt32} {v : Int} (hd : decode cc pc = .ok (.fcmp .l, 1)) (hv : Op.cmpValue (FP.fcmp x y) .l = Int32.ofInt v) (k : DW X G ρ0 L0 L (pc + 1) lv (aI v :: st) (M, Rf) u Q) : DW X G ρ0 L0 L pc lv (aF y :: aF x :: st) (M, Rf) u Q := by
  obtain ⟨p, l, e, R, s, m, args, below, meth, c⟩ := X
  obtain ⟨g, cy, A, nL, sx⟩ := G
  obtain ⟨hx, hb, hml, hown, hts, hK, hA, hlk, hret, hR, htr, hZ, hY⟩ := F
  intro ρ hρ hLE H locs ls hP hD hI hV hT hS hl
  refine lv_fcmp hx hb hd ?_
  rw [hv]
  exact k ρ hρ hLE H locs ls hP hD hI hV hT.tl.tl.i hS hl
theorem dw_dupR (F : FD X G ρ0 cc own ret d U) {x : Id4} (hd : decode cc pc = .ok (.dup, 1)) (k : DW X G ρ0 L0 L (pc + 1) lv (aR x :: aR x :: st) (M, Rf) u Q) : DW X G ρ0 L0 L pc lv (aR x :: st) (M, Rf) u Q := by
  obtain ⟨p, l, e, R, s, m, args, below, meth, c⟩ := X
  obtain ⟨g, cy, A, nL, sx⟩ := G
  obtain ⟨hx, hb, hml, hown, hts, hK, hA, hlk, hret, hR, htr, hZ, hY⟩ := F
  intro ρ hρ hLE H locs ls hP hD hI hV hT hS hl
  exact lv_dup hx hb hd rfl (k ρ hρ hLE H locs ls hP hD hI hV (RFd.r hT.hd hT) hS hl)
theorem dw_popI (F : FD X G ρ0 cc own ret d U) {x : Int} (hd : decode cc pc = .ok (.pop, 1)) (k : DW X G ρ0 L0 L (pc + 1) lv (st) (M, Rf) u Q) : DW X G ρ0 L0 L pc lv (aI x :: st) (M, Rf) u Q := by
  obtain ⟨p, l, e, R, s, m, args, below, meth, c⟩ := X
  obtain ⟨g, cy, A, nL, sx⟩ := G
  obtain ⟨hx, hb, hml, hown, hts, hK, hA, hlk, hret, hR, htr, hZ, hY⟩ := F
  intro ρ hρ hLE H locs ls hP hD hI hV hT hS hl
  exact lv_pop hx hb hd rfl (k ρ hρ hLE H locs ls hP hD hI hV hT.tl hS hl)
theorem dw_popR (F : FD X G ρ0 cc own ret d U) {x : Id4} (hd : decode cc pc = .ok (.pop, 1)) (k : DW X G ρ0 L0 L (pc + 1) lv (st) (M, Rf) u Q) : DW X G ρ0 L0 L pc lv (aR x :: st) (M, Rf) u Q := by
  obtain ⟨p, l, e, R, s, m, args, below, meth, c⟩ := X
  obtain ⟨g, cy, A, nL, sx⟩ := G
  obtain ⟨hx, hb, hml, hown, hts, hK, hA, hlk, hret, hR, htr, hZ, hY⟩ := F
  intro ρ hρ hLE H locs ls hP hD hI hV hT hS hl
  exact lv_pop hx hb hd rfl (k ρ hρ hLE H locs ls hP hD hI hV hT.tl hS hl)
theorem dw_iload0 (F : FD X G ρ0 cc own ret d U) {r : List AV} {x : Int} (hd : decode cc pc = .ok (.iload_n 0, 1)) (k : DW X G ρ0 L0 L (pc + 1) (aI x :: r) (aI x :: st) (M, Rf) u Q) : DW X G ρ0 L0 L pc (aI x :: r) (st) (M, Rf) u Q := by
  obtain ⟨p, l, e, R, s, m, args, below, meth, c⟩ := X
  obtain ⟨g, cy, A, nL, sx⟩ := G
  obtain ⟨hx, hb, hml, hown, hts, hK, hA, hlk, hret, hR, htr, hZ, hY⟩ := F
  intro ρ hρ hLE H locs ls hP hD hI hV hT hS hl
  exact lv_iload_n hx hb hd rfl (hl.2.2 0 (aI x) rfl rfl) (k ρ hρ hLE H locs ls hP hD hI hV hT.i hS hl)
theorem dw_istore0 (F : FD X G ρ0 cc own ret d U) {r : List AV} {x : Int} {w : AV} (hd : decode cc pc = .ok (.istore_n 0, 1)) (hw : (w :: r).all (fun v => !wide v) = true) (hn : (w :: r).length = G.2.2.2.1) (k : DW X G ρ0 L0 L (pc + 1) (aI x :: r) (st) (M, Rf) u Q) : DW X G ρ0 L0 L pc (w :: r) (aI x :: st) (M, Rf) u Q := by
  obtain ⟨p, l, e, R, s, m, args, below, meth, c⟩ := X
  obtain ⟨g, cy, A, nL, sx⟩ := G
  obtain ⟨hx, hb, hml, hown, hts, hK, hA, hlk, hret, hR, htr, hZ, hY⟩ := F
  intro ρ hρ hLE H locs ls hP hD hI hV hT hS hl
  have hn9 : _ = nL := hn
  refine lv_istore_n (i := 0) hx hb hd rfl (lh_as hl) (by rw [← hn9]; simp only [List.length_cons]; omega) rfl (fun ls' h' => ?_)
  exact k ρ hρ hLE H locs ls' hP hD hI (hV.set (i := 0) RFd.int) hT.tl hS (lh_set (i := 0) (v := aI x) hl hw (by simp only [List.length_cons]; omega) h')
theorem dw_aload0 (F : FD X G ρ0 cc own ret d U) {r : List AV} {x : Id4} (hd : decode cc pc = .ok (.aload_n 0, 1)) (k : DW X G ρ0 L0 L (pc + 1) (aR x :: r) (aR x :: st) (M, Rf) u Q) : DW X G ρ0 L0 L pc (aR x :: r) (st) (M, Rf) u Q := by
  obtain ⟨p, l, e, R, s, m, args, below, meth, c⟩ := X
  obtain ⟨g, cy, A, nL, sx⟩ := G
  obtain ⟨hx, hb, hml, hown, hts, hK, hA, hlk, hret, hR, htr, hZ, hY⟩ := F
  intro ρ hρ hLE H locs ls hP hD hI hV hT hS hl
  exact lv_aload_n hx hb hd rfl (hl.2.2 0 (aR x) rfl rfl) (k ρ hρ hLE H locs ls hP hD hI hV (RFd.r (hV.at (i := 0) rfl) hT) hS hl)
theorem dw_astore0 (F : FD X G ρ0 cc own ret d U) {r : List AV} {x : Id4} {w : AV} (hd : decode cc pc = .ok (.astore_n 0, 1)) (hw : (w :: r).all (fun v => !wide v) = true) (hn : (w :: r).length = G.2.2.2.1) (k : DW X G ρ0 L0 L (pc + 1) (aR x :: r) (st) (M, Rf) u Q) : DW X G ρ0 L0 L pc (w :: r) (aR x :: st) (M, Rf) u Q := by
  obtain ⟨p, l, e, R, s, m, args, below, meth, c⟩ := X
  obtain ⟨g, cy, A, nL, sx⟩ := G
  obtain ⟨hx, hb, hml, hown, hts, hK, hA, hlk, hret, hR, htr, hZ, hY⟩ := F
  intro ρ hρ hLE H locs ls hP hD hI hV hT hS hl
  have hn9 : _ = nL := hn
  refine lv_astore_n (i := 0) hx hb hd rfl (lh_as hl) (by rw [← hn9]; simp only [List.length_cons]; omega) rfl (fun ls' h' => ?_)
  exact k ρ hρ hLE H locs ls' hP hD hI (hV.set (i := 0) (RFd.r hT.hd RFd.nil)) hT.tl hS (lh_set (i := 0) (v := aR x) hl hw (by simp only [List.length_cons]; omega) h')
theorem dw_iinc0 (F : FD X G ρ0 cc own ret d U) {r : List AV} {x n : Int} (hd : decode cc pc = .ok (.iinc 0 n, 3)) (hw : (aI x :: r).all (fun v => !wide v) = true) (hn : (aI x :: r).length = G.2.2.2.1) (k : DW X G ρ0 L0 L (pc + 3) (aI (x + n) :: r) (st) (M, Rf) u Q) : DW X G ρ0 L0 L pc (aI x :: r) (st) (M, Rf) u Q := by
  obtain ⟨p, l, e, R, s, m, args, below, meth, c⟩ := X
  obtain ⟨g, cy, A, nL, sx⟩ := G
  obtain ⟨hx, hb, hml, hown, hts, hK, hA, hlk, hret, hR, htr, hZ, hY⟩ := F
  intro ρ hρ hLE H locs ls hP hD hI hV hT hS hl
  obtain ⟨j, hj⟩ := lh_mem (i := 0) (v := aI x) hl rfl rfl
  have hn9 : _ = nL := hn
  refine lv_iinc hx hb hd (lh_as hl) hj (v := Int32.ofInt (x + n)) (Int32.ofInt_add x n).symm (by rw [← hn9]; simp only [List.length_cons]; omega) rfl (fun ls' h' => ?_)
  exact k ρ hρ hLE H locs ls' hP hD hI (hV.set (i := 0) RFd.int) hT hS (lh_set (i := 0) (v := aI (x + n)) hl hw (by simp only [List.length_cons]; omega) h')
theorem dw_iload1 (F : FD X G ρ0 cc own ret d U) {a0 : AV} {r : List AV} {x : Int} (hd : decode cc pc = .ok (.iload_n 1, 1)) (k : DW X G ρ0 L0 L (pc + 1) (a0 :: aI x :: r) (aI x :: st) (M, Rf) u Q) : DW X G ρ0 L0 L pc (a0 :: aI x :: r) (st) (M, Rf) u Q := by
  obtain ⟨p, l, e, R, s, m, args, below, meth, c⟩ := X
  obtain ⟨g, cy, A, nL, sx⟩ := G
  obtain ⟨hx, hb, hml, hown, hts, hK, hA, hlk, hret, hR, htr, hZ, hY⟩ := F
  intro ρ hρ hLE H locs ls hP hD hI hV hT hS hl
  exact lv_iload_n hx hb hd rfl (hl.2.2 1 (aI x) rfl rfl) (k ρ hρ hLE H locs ls hP hD hI hV hT.i hS hl)
theorem dw_istore1 (F : FD X G ρ0 cc own ret d U) {a0 : AV} {r : List AV} {x : Int} {w : AV} (hd : decode cc pc = .ok (.istore_n 1, 1)) (hw : (a0 :: w :: r).all (fun v => !wide v) = true) (hn : (a0 :: w :: r).length = G.2.2.2.1) (k : DW X G ρ0 L0 L (pc + 1) (a0 :: aI x :: r) (st) (M, Rf) u Q) : DW X G ρ0 L0 L pc (a0 :: w :: r) (aI x :: st) (M, Rf) u Q := by
  obtain ⟨p, l, e, R, s, m, args, below, meth, c⟩ := X
  obtain ⟨g, cy, A, nL, sx⟩ := G
  obtain ⟨hx, hb, hml, hown, hts, hK, hA, hlk, hret, hR, htr, hZ, hY⟩ := F
  intro ρ hρ hLE H locs ls hP hD hI hV hT hS hl
  have hn9 : _ = nL := hn
  refine lv_istore_n (i := 1) hx hb hd rfl (lh_as hl) (by rw [← hn9]; simp only [List.length_cons]; omega) rfl (fun ls' h' => ?_)
  exact k ρ hρ hLE H locs ls' hP hD hI (hV.set (i := 1) RFd.int) hT.tl hS (lh_set (i := 1) (v := aI x) hl hw (by simp only [List.length_cons]; omega) h')
theorem dw_aload1 (F : FD X G ρ0 cc own ret d U) {a0 : AV} {r : List AV} {x : Id4} (hd : decode cc pc = .ok (.aload_n 1, 1)) (k : DW X G ρ0 L0 L (pc + 1) (a0 :: aR x :: r) (aR x :: st) (M, Rf) u Q) : DW X G ρ0 L0 L pc (a0 :: aR x :: r) (st) (M, Rf) u Q := by
  obtain ⟨p, l, e, R, s, m, args, below, meth, c⟩ := X
  obtain ⟨g, cy, A, nL, sx⟩ := G
  obtain ⟨hx, hb, hml, hown, hts, hK, hA, hlk, hret, hR, htr, hZ, hY⟩ := F
  intro ρ hρ hLE H locs ls hP hD hI hV hT hS hl
  exact lv_aload_n hx hb hd rfl (hl.2.2 1 (aR x) rfl rfl) (k ρ hρ hLE H locs ls hP hD hI hV (RFd.r (hV.at (i := 1) rfl) hT) hS hl)
theorem dw_astore1 (F : FD X G ρ0 cc own ret d U) {a0 : AV} {r : List AV} {x : Id4} {w : AV} (hd : decode cc pc = .ok (.astore_n 1, 1)) (hw : (a0 :: w :: r).all (fun v => !wide v) = true) (hn : (a0 :: w :: r).length = G.2.2.2.1) (k : DW X G ρ0 L0 L (pc + 1) (a0 :: aR x :: r) (st) (M, Rf) u Q) : DW X G ρ0 L0 L pc (a0 :: w :: r) (aR x :: st) (M, Rf) u Q := by
  obtain ⟨p, l, e, R, s, m, args, below, meth, c⟩ := X
  obtain ⟨g, cy, A, nL, sx⟩ := G
  obtain ⟨hx, hb, hml, hown, hts, hK, hA, hlk, hret, hR, htr, hZ, hY⟩ := F
  intro ρ hρ hLE H locs ls hP hD hI hV hT hS hl
  have hn9 : _ = nL := hn
  refine lv_astore_n (i := 1) hx hb hd rfl (lh_as hl) (by rw [← hn9]; simp only [List.length_cons]; omega) rfl (fun ls' h' => ?_)
  exact k ρ hρ hLE H locs ls' hP hD hI (hV.set (i := 1) (RFd.r hT.hd RFd.nil)) hT.tl hS (lh_set (i := 1) (v := aR x) hl hw (by simp only [List.length_cons]; omega) h')
theorem dw_iinc1 (F : FD X G ρ0 cc own ret d U) {a0 : AV} {r : List AV} {x n : Int} (hd : decode cc pc = .ok (.iinc 1 n, 3)) (hw : (a0 :: aI x :: r).all (fun v => !wide v) = true) (hn : (a0 :: aI x :: r).length = G.2.2.2.1) (k : DW X G ρ0 L0 L (pc + 3) (a0 :: aI (x + n) :: r) (st) (M, Rf) u Q) : DW X G ρ0 L0 L pc (a0 :: aI x :: r) (st) (M, Rf) u Q := by
  obtain ⟨p, l, e, R, s, m, args, below, meth, c⟩ := X
  obtain ⟨g, cy, A, nL, sx⟩ := G
  obtain ⟨hx, hb, hml, hown, hts, hK, hA, hlk, hret, hR, htr, hZ, hY⟩ := F
  intro ρ hρ hLE H locs ls hP hD hI hV hT hS hl
  obtain ⟨j, hj⟩ := lh_mem (i := 1) (v := aI x) hl rfl rfl
  have hn9 : _ = nL := hn
  refine lv_iinc hx hb hd (lh_as hl) hj (v := Int32.ofInt (x + n)) (Int32.ofInt_add x n).symm (by rw [← hn9]; simp only [List.length_cons]; omega) rfl (fun ls' h' => ?_)
  exact k ρ hρ hLE H locs ls' hP hD hI (hV.set (i := 1) RFd.int) hT hS (lh_set (i := 1) (v := aI (x + n)) hl hw (by simp only [List.length_cons]; omega) h')
theorem dw_iload2 (F : FD X G ρ0 cc own ret d U) {a0 a1 : AV} {r : List AV} {x : Int} (hd : decode cc pc = .ok (.iload_n 2, 1)) (k : DW X G ρ0 L0 L (pc + 1) (a0 :: a1 :: aI x :: r) (aI x :: st) (M, Rf) u Q) : DW X G ρ0 L0 L pc (a0 :: a1 :: aI x :: r) (st) (M, Rf) u Q := by
  obtain ⟨p, l, e, R, s, m, args, below, meth, c⟩ := X
  obtain ⟨g, cy, A, nL, sx⟩ := G
  obtain ⟨hx, hb, hml, hown, hts, hK, hA, hlk, hret, hR, htr, hZ, hY⟩ := F
  intro ρ hρ hLE H locs ls hP hD hI hV hT hS hl
  exact lv_iload_n hx hb hd rfl (hl.2.2 2 (aI x) rfl rfl) (k ρ hρ hLE H locs ls hP hD hI hV hT.i hS hl)
theorem dw_istore2 (F : FD X G ρ0 cc own ret d U) {a0 a1 : AV} {r : List AV} {x : Int} {w : AV} (hd : decode cc pc = .ok (.istore_n 2, 1)) (hw : (a0 :: a1 :: w :: r).all (fun v => !wide v) = true) (hn : (a0 :: a1 :: w :: r).length = G.2.2.2.1) (k : DW X G ρ0 L0 L (pc + 1) (a0 :: a1 :: aI x :: r) (st) (M, Rf) u Q) : DW X G ρ0 L0 L pc (a0 :: a1 :: w :: r) (aI x :: st) (M, Rf) u Q := by
  obtain ⟨p, l, e, R, s, m, args, below, meth, c⟩ := X
  obtain ⟨g, cy, A, nL, sx⟩ := G
  obtain ⟨hx, hb, hml, hown, hts, hK, hA, hlk, hret, hR, htr, hZ, hY⟩ := F
  intro ρ hρ hLE H locs ls hP hD hI hV hT hS hl
  have hn9 : _ = nL := hn
  refine lv_istore_n (i := 2) hx hb hd rfl (lh_as hl) (by rw [← hn9]; simp only [List.length_cons]; omega) rfl (fun ls' h' => ?_)
  exact k ρ hρ hLE H locs ls' hP hD hI (hV.set (i := 2) RFd.int) hT.tl hS (lh_set (i := 2) (v := aI x) hl hw (by simp only [List.length_cons]; omega) h')
theorem dw_aload2 (F : FD X G ρ0 cc own ret d U) {a0 a1 : AV} {r : List AV} {x : Id4} (hd : decode cc pc = .ok (.aload_n 2, 1)) (k : DW X G ρ0 L0 L (pc + 1) (a0 :: a1 :: aR x :: r) (aR x :: st) (M, Rf) u Q) : DW X G ρ0 L0 L pc (a0 :: a1 :: aR x :: r) (st) (M, Rf) u Q := by
  obtain ⟨p, l, e, R, s, m, args, below, meth, c⟩ := X
  obtain ⟨g, cy, A, nL, sx⟩ := G
  obtain ⟨hx, hb, hml, hown, hts, hK, hA, hlk, hret, hR, htr, hZ, hY⟩ := F
  intro ρ hρ hLE H locs ls hP hD hI hV hT hS hl
  exact lv_aload_n hx hb hd rfl (hl.2.2 2 (aR x) rfl rfl) (k ρ hρ hLE H locs ls hP hD hI hV (RFd.r (hV.at (i := 2) rfl) hT) hS hl)
theorem dw_astore2 (F : FD X G ρ0 cc own ret d U) {a0 a1 : AV} {r : List AV} {x : Id4} {w : AV} (hd : decode cc pc = .ok (.astore_n 2, 1)) (hw : (a0 :: a1 :: w :: r).all (fun v => !wide v) = true) (hn : (a0 :: a1 :: w :: r).length = G.2.2.2.1) (k : DW X G ρ0 L0 L (pc + 1) (a0 :: a1 :: aR x :: r) (st) (M, Rf) u Q) : DW X G ρ0 L0 L pc (a0 :: a1 :: w :: r) (aR x :: st) (M, Rf) u Q := by
  obtain ⟨p, l, e, R, s, m, args, below, meth, c⟩ := X
  obtain ⟨g, cy, A, nL, sx⟩ := G
  obtain ⟨hx, hb, hml, hown, hts, hK, hA, hlk, hret, hR, htr, hZ, hY⟩ := F
  intro ρ hρ hLE H locs ls hP hD hI hV hT hS hl
  have hn9 : _ = nL := hn
  refine lv_astore_n (i := 2) hx hb hd rfl (lh_as hl) (by rw [← hn9]; simp only [List.length_cons]; omega) rfl (fun ls' h' => ?_)
  exact k ρ hρ hLE H locs ls' hP hD hI (hV.set (i := 2) (RFd.r hT.hd RFd.nil)) hT.tl hS (lh_set (i := 2) (v := aR x) hl hw (by simp only [List.length_cons]; omega) h')
theorem dw_iinc2 (F : FD X G ρ0 cc own ret d U) {a0 a1 : AV} {r : List AV} {x n : Int} (hd : decode cc pc = .ok (.iinc 2 n, 3)) (hw : (a0 :: a1 :: aI x :: r).all (fun v => !wide v) = true) (hn : (a0 :: a1 :: aI x :: r).length = G.2.2.2.1) (k : DW X G ρ0 L0 L (pc + 3) (a0 :: a1 :: aI (x + n) :: r) (st) (M, Rf) u Q) : DW X G ρ0 L0 L pc (a0 :: a1 :: aI x :: r) (st) (M, Rf) u Q := by
  obtain ⟨p, l, e, R, s, m, args, below, meth, c⟩ := X
  obtain ⟨g, cy, A, nL, sx⟩ := G
  obtain ⟨hx, hb, hml, hown, hts, hK, hA, hlk, hret, hR, htr, hZ, hY⟩ := F
  intro ρ hρ hLE H locs ls hP hD hI hV hT hS hl
  obtain ⟨j, hj⟩ := lh_mem (i := 2) (v := aI x) hl rfl rfl
  have hn9 : _ = nL := hn
  refine lv_iinc hx hb hd (lh_as hl) hj (v := Int32.ofInt (x + n)) (Int32.ofInt_add x n).symm (by rw [← hn9]; simp only [List.length_cons]; omega) rfl (fun ls' h' => ?_)
  exact k ρ hρ hLE H locs ls' hP hD hI (hV.set (i := 2) RFd.int) hT hS (lh_set (i := 2) (v := aI (x + n)) hl hw (by simp only [List.length_cons]; omega) h')
theorem dw_iload3 (F : FD X G ρ0 cc own ret d U) {a0 a1 a2 : AV} {r : List AV} {x : Int} (hd : decode cc pc = .ok (.iload_n 3, 1)) (k : DW X G ρ0 L0 L (pc + 1) (a0 :: a1 :: a2 :: aI x :: r) (aI x :: st) (M, Rf) u Q) : DW X G ρ0 L0 L pc (a0 :: a1 :: a2 :: aI x :: r) (st) (M, Rf) u Q := by
  obtain ⟨p, l, e, R, s, m, args, below, meth, c⟩ := X
  obtain ⟨g, cy, A, nL, sx⟩ := G
  obtain ⟨hx, hb, hml, hown, hts, hK, hA, hlk, hret, hR, htr, hZ, hY⟩ := F
  intro ρ hρ hLE H locs ls hP hD hI hV hT hS hl
  exact lv_iload_n hx hb hd rfl (hl.2.2 3 (aI x) rfl rfl) (k ρ hρ hLE H locs ls hP hD hI hV hT.i hS hl)
theorem dw_istore3 (F : FD X G ρ0 cc own ret d U) {a0 a1 a2 : AV} {r : List AV} {x : Int} {w : AV} (hd : decode cc pc = .ok (.istore_n 3, 1)) (hw : (a0 :: a1 :: a2 :: w :: r).all (fun v => !wide v) = true) (hn : (a0 :: a1 :: a2 :: w :: r).length = G.2.2.2.1) (k : DW X G ρ0 L0 L (pc + 1) (a0 :: a1 :: a2 :: aI x :: r) (st) (M, Rf) u Q) : DW X G ρ0 L0 L pc (a0 :: a1 :: a2 :: w :: r) (aI x :: st) (M, Rf) u Q := by
  obtain ⟨p, l, e, R, s, m, args, below, meth, c⟩ := X
  obtain ⟨g, cy, A, nL, sx⟩ := G
  obtain ⟨hx, hb, hml, hown, hts, hK, hA, hlk, hret, hR, htr, hZ, hY⟩ := F
  intro ρ hρ hLE H locs ls hP hD hI hV hT hS hl
  have hn9 : _ = nL := hn
  refine lv_istore_n (i := 3) hx hb hd rfl (lh_as hl) (by rw [← hn9]; simp only [List.length_cons]; omega) rfl (fun ls' h' => ?_)
  exact k ρ hρ hLE H locs ls' hP hD hI (hV.set (i := 3) RFd.int) hT.tl hS (lh_set (i := 3) (v := aI x) hl hw (by simp only [List.length_cons]; omega) h')
theorem dw_aload3 (F : FD X G ρ0 cc own ret d U) {a0 a1 a2 : AV} {r : List AV} {x : Id4} (hd : decode cc pc = .ok (.aload_n 3, 1)) (k : DW X G ρ0 L0 L (pc + 1) (a0 :: a1 :: a2 :: aR x :: r) (aR x :: st) (M, Rf) u Q) : DW X G ρ0 L0 L pc (a0 :: a1 :: a2 :: aR x :: r) (st) (M, Rf) u Q := by
  obtain ⟨p, l, e, R, s, m, args, below, meth, c⟩ := X
  obtain ⟨g, cy, A, nL, sx⟩ := G
  obtain ⟨hx, hb, hml, hown, hts, hK, hA, hlk, hret, hR, htr, hZ, hY⟩ := F
  intro ρ hρ hLE H locs ls hP hD hI hV hT hS hl
  exact lv_aload_n hx hb hd rfl (hl.2.2 3 (aR x) rfl rfl) (k ρ hρ hLE H locs ls hP hD hI hV (RFd.r (hV.at (i := 3) rfl) hT) hS hl)
theorem dw_astore3 (F : FD X G ρ0 cc own ret d U) {a0 a1 a2 : AV} {r : List AV} {x : Id4} {w : AV} (hd : decode cc pc = .ok (.astore_n 3, 1)) (hw : (a0 :: a1 :: a2 :: w :: r).all (fun v => !wide v) = true) (hn : (a0 :: a1 :: a2 :: w :: r).length = G.2.2.2.1) (k : DW X G ρ0 L0 L (pc + 1) (a0 :: a1 :: a2 :: aR x :: r) (st) (M, Rf) u Q) : DW X G ρ0 L0 L pc (a0 :: a1 :: a2 :: w :: r) (aR x :: st) (M, Rf) u Q := by
  obtain ⟨p, l, e, R, s, m, args, below, meth, c⟩ := X
  obtain ⟨g, cy, A, nL, sx⟩ := G
  obtain ⟨hx, hb, hml, hown, hts, hK, hA, hlk, hret, hR, htr, hZ, hY⟩ := F
  intro ρ hρ hLE H locs ls hP hD hI hV hT hS hl
  have hn9 : _ = nL := hn
  refine lv_astore_n (i := 3) hx hb hd rfl (lh_as hl) (by rw [← hn9]; simp only [List.length_cons]; omega) rfl (fun ls' h' => ?_)
  exact k ρ hρ hLE H locs ls' hP hD hI (hV.set (i := 3) (RFd.r hT.hd RFd.nil)) hT.tl hS (lh_set (i := 3) (v := aR x) hl hw (by simp only [List.length_cons]; omega) h')
theorem dw_iinc3 (F : FD X G ρ0 cc own ret d U) {a0 a1 a2 : AV} {r : List AV} {x n : Int} (hd : decode cc pc = .ok (.iinc 3 n, 3)) (hw : (a0 :: a1 :: a2 :: aI x :: r).all (fun v => !wide v) = true) (hn : (a0 :: a1 :: a2 :: aI x :: r).length = G.2.2.2.1) (k : DW X G ρ0 L0 L (pc + 3) (a0 :: a1 :: a2 :: aI (x + n) :: r) (st) (M, Rf) u Q) : DW X G ρ0 L0 L pc (a0 :: a1 :: a2 :: aI x :: r) (st) (M, Rf) u Q := by
  obtain ⟨p, l, e, R, s, m, args, below, meth, c⟩ := X
  obtain ⟨g, cy, A, nL, sx⟩ := G
  obtain ⟨hx, hb, hml, hown, hts, hK, hA, hlk, hret, hR, htr, hZ, hY⟩ := F
  intro ρ hρ hLE H locs ls hP hD hI hV hT hS hl
  obtain ⟨j, hj⟩ := lh_mem (i := 3) (v := aI x) hl rfl rfl
  have hn9 : _ = nL := hn
  refine lv_iinc hx hb hd (lh_as hl) hj (v := Int32.ofInt (x + n)) (Int32.ofInt_add x n).symm (by rw [← hn9]; simp only [List.length_cons]; omega) rfl (fun ls' h' => ?_)
  exact k ρ hρ hLE H locs ls' hP hD hI (hV.set (i := 3) RFd.int) hT hS (lh_set (i := 3) (v := aI (x + n)) hl hw (by simp only [List.length_cons]; omega) h')
theorem dw_iload4 (F : FD X G ρ0 cc own ret d U) {a0 a1 a2 a3 : AV} {r : List AV} {x : Int} (hd : decode cc pc = .ok (.iload 4, 2)) (k : DW X G ρ0 L0 L (pc + 2) (a0 :: a1 :: a2 :: a3 :: aI x :: r) (aI x :: st) (M, Rf) u Q) : DW X G ρ0 L0 L pc (a0 :: a1 :: a2 :: a3 :: aI x :: r) (st) (M, Rf) u Q := by
  obtain ⟨p, l, e, R, s, m, args, below, meth, c⟩ := X
  obtain ⟨g, cy, A, nL, sx⟩ := G
  obtain ⟨hx, hb, hml, hown, hts, hK, hA, hlk, hret, hR, htr, hZ, hY⟩ := F
  intro ρ hρ hLE H locs ls hP hD hI hV hT hS hl
  exact lv_iload hx hb hd (hl.2.2 4 (aI x) rfl rfl) (k ρ hρ hLE H locs ls hP hD hI hV hT.i hS hl)
theorem dw_istore4 (F : FD X G ρ0 cc own ret d U) {a0 a1 a2 a3 : AV} {r : List AV} {x : Int} {w : AV} (hd : decode cc pc = .ok (.istore 4, 2)) (hw : (a0 :: a1 :: a2 :: a3 :: w :: r).all (fun v => !wide v) = true) (hn : (a0 :: a1 :: a2 :: a3 :: w :: r).length = G.2.2.2.1) (k : DW X G ρ0 L0 L (pc + 2) (a0 :: a1 :: a2 :: a3 :: aI x :: r) (st) (M, Rf) u Q) : DW X G ρ0 L0 L pc (a0 :: a1 :: a2 :: a3 :: w :: r) (aI x :: st) (M, Rf) u Q := by
  obtain ⟨p, l, e, R, s, m, args, below, meth, c⟩ := X
  obtain ⟨g, cy, A, nL, sx⟩ := G
  obtain ⟨hx, hb, hml, hown, hts, hK, hA, hlk, hret, hR, htr, hZ, hY⟩ := F
  intro ρ hρ hLE H locs ls hP hD hI hV hT hS hl
  have hn9 : _ = nL := hn
  refine lv_istore hx hb hd (lh_as hl) (by rw [← hn9]; simp only [List.length_cons]; omega) rfl (fun ls' h' => ?_)
  exact k ρ hρ hLE H locs ls' hP hD hI (hV.set (i := 4) RFd.int) hT.tl hS (lh_set (i := 4) (v := aI x) hl hw (by simp only [List.length_cons]; omega) h')
theorem dw_aload4 (F : FD X G ρ0 cc own ret d U) {a0 a1 a2 a3 : AV} {r : List AV} {x : Id4} (hd : decode cc pc = .ok (.aload 4, 2)) (k : DW X G ρ0 L0 L (pc + 2) (a0 :: a1 :: a2 :: a3 :: aR x :: r) (aR x :: st) (M, Rf) u Q) : DW X G ρ0 L0 L pc (a0 :: a1 :: a2 :: a3 :: aR x :: r) (st) (M, Rf) u Q := by
  obtain ⟨p, l, e, R, s, m, args, below, meth, c⟩ := X
  obtain ⟨g, cy, A, nL, sx⟩ := G
  obtain ⟨hx, hb, hml, hown, hts, hK, hA, hlk, hret, hR, htr, hZ, hY⟩ := F
  intro ρ hρ hLE H locs ls hP hD hI hV hT hS hl
  exact lv_aload hx hb hd (hl.2.2 4 (aR x) rfl rfl) (k ρ hρ hLE H locs ls hP hD hI hV (RFd.r (hV.at (i := 4) rfl) hT) hS hl)
theorem dw_astore4 (F : FD X G ρ0 cc own ret d U) {a0 a1 a2 a3 : AV} {r : List AV} {x : Id4} {w : AV} (hd : decode cc pc = .ok (.astore 4, 2)) (hw : (a0 :: a1 :: a2 :: a3 :: w :: r).all (fun v => !wide v) = true) (hn : (a0 :: a1 :: a2 :: a3 :: w :: r).length = G.2.2.2.1) (k : DW X G ρ0 L0 L (pc + 2) (a0 :: a1 :: a2 :: a3 :: aR x :: r) (st) (M, Rf) u Q) : DW X G ρ0 L0 L pc (a0 :: a1 :: a2 :: a3 :: w :: r) (aR x :: st) (M, Rf) u Q := by
  obtain ⟨p, l, e, R, s, m, args, below, meth, c⟩ := X
  obtain ⟨g, cy, A, nL, sx⟩ := G
  obtain ⟨hx, hb, hml, hown, hts, hK, hA, hlk, hret, hR, htr, hZ, hY⟩ := F
  intro ρ hρ hLE H locs ls hP hD hI hV hT hS hl
  have hn9 : _ = nL := hn
  refine lv_astore hx hb hd (lh_as hl) (by rw [← hn9]; simp only [List.length_cons]; omega) rfl (fun ls' h' => ?_)
  exact k ρ hρ hLE H locs ls' hP hD hI (hV.set (i := 4) (RFd.r hT.hd RFd.nil)) hT.tl hS (lh_set (i := 4) (v := aR x) hl hw (by simp only [List.length_cons]; omega) h')
theorem dw_iinc4 (F : FD X G ρ0 cc own ret d U) {a0 a1 a2 a3 : AV} {r : List AV} {x n : Int} (hd : decode cc pc = .ok (.iinc 4 n, 3)) (hw : (a0 :: a1 :: a2 :: a3 :: aI x :: r).all (fun v => !wide v) = true) (hn : (a0 :: a1 :: a2 :: a3 :: aI x :: r).length = G.2.2.2.1) (k : DW X G ρ0 L0 L (pc + 3) (a0 :: a1 :: a2 :: a3 :: aI (x + n) :: r) (st) (M, Rf) u Q) : DW X G ρ0 L0 L pc (a0 :: a1 :: a2 :: a3 :: aI x :: r) (st) (M, Rf) u Q := by
  obtain ⟨p, l, e, R, s, m, args, below, meth, c⟩ := X
  obtain ⟨g, cy, A, nL, sx⟩ := G
  obtain ⟨hx, hb, hml, hown, hts, hK, hA, hlk, hret, hR, htr, hZ, hY⟩ := F
  intro ρ hρ hLE H locs ls hP hD hI hV hT hS hl
  obtain ⟨j, hj⟩ := lh_mem (i := 4) (v := aI x) hl rfl rfl
  have hn9 : _ = nL := hn
  refine lv_iinc hx hb hd (lh_as hl) hj (v := Int32.ofInt (x + n)) (Int32.ofInt_add x n).symm (by rw [← hn9]; simp only [List.length_cons]; omega) rfl (fun ls' h' => ?_)
  exact k ρ hρ hLE H locs ls' hP hD hI (hV.set (i := 4) RFd.int) hT hS (lh_set (i := 4) (v := aI (x + n)) hl hw (by simp only [List.length_cons]; omega) h')
theorem dw_iload5 (F : FD X G ρ0 cc own ret d U) {a0 a1 a2 a3 a4 : AV} {r : List AV} {x : Int} (hd : decode cc pc = .ok (.iload 5, 2)) (k : DW X G ρ0 L0 L (pc + 2) (a0 :: a1 :: a2 :: a3 :: a4 :: aI x :: r) (aI x :: st) (M, Rf) u Q) : DW X G ρ0 L0 L pc (a0 :: a1 :: a2 :: a3 :: a4 :: aI x :: r) (st) (M, Rf) u Q := by
  obtain ⟨p, l, e, R, s, m, args, below, meth, c⟩ := X
  obtain ⟨g, cy, A, nL, sx⟩ := G
  obtain ⟨hx, hb, hml, hown, hts, hK, hA, hlk, hret, hR, htr, hZ, hY⟩ := F
  intro ρ hρ hLE H locs ls hP hD hI hV hT hS hl
  exact lv_iload hx hb hd (hl.2.2 5 (aI x) rfl rfl) (k ρ hρ hLE H locs ls hP hD hI hV hT.i hS hl)
theorem dw_istore5 (F : FD X G ρ0 cc own ret d U) {a0 a1 a2 a3 a4 : AV} {r : List AV} {x : Int} {w : AV} (hd : decode cc pc = .ok (.istore 5, 2)) (hw : (a0 :: a1 :: a2 :: a3 :: a4 :: w :: r).all (fun v => !wide v) = true) (hn : (a0 :: a1 :: a2 :: a3 :: a4 :: w :: r).length = G.2.2.2.1) (k : DW X G ρ0 L0 L (pc + 2) (a0 :: a1 :: a2 :: a3 :: a4 :: aI x :: r) (st) (M, Rf) u Q) : DW X G ρ0 L0 L pc (a0 :: a1 :: a2 :: a3 :: a4 :: w :: r) (aI x :: st) (M, Rf) u Q := by
  obtain ⟨p, l, e, R, s, m, args, below, meth, c⟩ := X
  obtain ⟨g, cy, A, nL, sx⟩ := G
  obtain ⟨hx, hb, hml, hown, hts, hK, hA, hlk, hret, hR, htr, hZ, hY⟩ := F
  intro ρ hρ hLE H locs ls hP hD hI hV hT hS hl
  have hn9 : _ = nL := hn
  refine lv_istore hx hb hd (lh_as hl) (by rw [← hn9]; simp only [List.length_cons]; omega) rfl (fun ls' h' => ?_)
  exact k ρ hρ hLE H locs ls' hP hD hI (hV.set (i := 5) RFd.int) hT.tl hS (lh_set (i := 5) (v := aI x) hl hw (by simp only [List.length_cons]; omega) h')
theorem dw_aload5 (F : FD X G ρ0 cc own ret d U) {a0 a1 a2 a3 a4 : AV} {r : List AV} {x : Id4} (hd : decode cc pc = .ok (.aload 5, 2)) (k : DW X G ρ0 L0 L (pc + 2) (a0 :: a1 :: a2 :: a3 :: a4 :: aR x :: r) (aR x :: st) (M, Rf) u Q) : DW X G ρ0 L0 L pc (a0 :: a1 :: a2 :: a3 :: a4 :: aR x :: r) (st) (M, Rf) u Q := by
  obtain ⟨p, l, e, R, s, m, args, below, meth, c⟩ := X
  obtain ⟨g, cy, A, nL, sx⟩ := G
  obtain ⟨hx, hb, hml, hown, hts, hK, hA, hlk, hret, hR, htr, hZ, hY⟩ := F
  intro ρ hρ hLE H locs ls hP hD hI hV hT hS hl
  exact lv_aload hx hb hd (hl.2.2 5 (aR x) rfl rfl) (k ρ hρ hLE H locs ls hP hD hI hV (RFd.r (hV.at (i := 5) rfl) hT) hS hl)
theorem dw_astore5 (F : FD X G ρ0 cc own ret d U) {a0 a1 a2 a3 a4 : AV} {r : List AV} {x : Id4} {w : AV} (hd : decode cc pc = .ok (.astore 5, 2)) (hw : (a0 :: a1 :: a2 :: a3 :: a4 :: w :: r).all (fun v => !wide v) = true) (hn : (a0 :: a1 :: a2 :: a3 :: a4 :: w :: r).length = G.2.2.2.1) (k : DW X G ρ0 L0 L (pc + 2) (a0 :: a1 :: a2 :: a3 :: a4 :: aR x :: r) (st) (M, Rf) u Q) : DW X G ρ0 L0 L pc (a0 :: a1 :: a2 :: a3 :: a4 :: w :: r) (aR x :: st) (M, Rf) u Q := by
  obtain ⟨p, l, e, R, s, m, args, below, meth, c⟩ := X
  obtain ⟨g, cy, A, nL, sx⟩ := G
  obtain ⟨hx, hb, hml, hown, hts, hK, hA, hlk, hret, hR, htr, hZ, hY⟩ := F
  intro ρ hρ hLE H locs ls hP hD hI hV hT hS hl
  have hn9 : _ = nL := hn
  refine lv_astore hx hb hd (lh_as hl) (by rw [← hn9]; simp only [List.length_cons]; omega) rfl (fun ls' h' => ?_)
  exact k ρ hρ hLE H locs ls' hP hD hI (hV.set (i := 5) (RFd.r hT.hd RFd.nil)) hT.tl hS (lh_set (i := 5) (v := aR x) hl hw (by simp only [List.length_cons]; omega) h')
theorem dw_iinc5 (F : FD X G ρ0 cc own ret d U) {a0 a1 a2 a3 a4 : AV} {r : List AV} {x n : Int} (hd : decode cc pc = .ok (.iinc 5 n, 3)) (hw : (a0 :: a1 :: a2 :: a3 :: a4 :: aI x :: r).all (fun v => !wide v) = true) (hn : (a0 :: a1 :: a2 :: a3 :: a4 :: aI x :: r).length = G.2.2.2.1) (k : DW X G ρ0 L0 L (pc + 3) (a0 :: a1 :: a2 :: a3 :: a4 :: aI (x + n) :: r) (st) (M, Rf) u Q) : DW X G ρ0 L0 L pc (a0 :: a1 :: a2 :: a3 :: a4 :: aI x :: r) (st) (M, Rf) u Q := by
  obtain ⟨p, l, e, R, s, m, args, below, meth, c⟩ := X
  obtain ⟨g, cy, A, nL, sx⟩ := G
  obtain ⟨hx, hb, hml, hown, hts, hK, hA, hlk, hret, hR, htr, hZ, hY⟩ := F
  intro ρ hρ hLE H locs ls hP hD hI hV hT hS hl
  obtain ⟨j, hj⟩ := lh_mem (i := 5) (v := aI x) hl rfl rfl
  have hn9 : _ = nL := hn
  refine lv_iinc hx hb hd (lh_as hl) hj (v := Int32.ofInt (x + n)) (Int32.ofInt_add x n).symm (by rw [← hn9]; simp only [List.length_cons]; omega) rfl (fun ls' h' => ?_)
  exact k ρ hρ hLE H locs ls' hP hD hI (hV.set (i := 5) RFd.int) hT hS (lh_set (i := 5) (v := aI (x + n)) hl hw (by simp only [List.length_cons]; omega) h')
theorem dw_iload6 (F : FD X G ρ0 cc own ret d U) {a0 a1 a2 a3 a4 a5 : AV} {r : List AV} {x : Int} (hd : decode cc pc = .ok (.iload 6, 2)) (k : DW X G ρ0 L0 L (pc + 2) (a0 :: a1 :: a2 :: a3 :: a4 :: a5 :: aI x :: r) (aI x :: st) (M, Rf) u Q) : DW X G ρ0 L0 L pc (a0 :: a1 :: a2 :: a3 :: a4 :: a5 :: aI x :: r) (st) (M, Rf) u Q := by
  obtain ⟨p, l, e, R, s, m, args, below, meth, c⟩ := X
  obtain ⟨g, cy, A, nL, sx⟩ := G
  obtain ⟨hx, hb, hml, hown, hts, hK, hA, hlk, hret, hR, htr, hZ, hY⟩ := F
  intro ρ hρ hLE H locs ls hP hD hI hV hT hS hl
  exact lv_iload hx hb hd (hl.2.2 6 (aI x) rfl rfl) (k ρ hρ hLE H locs ls hP hD hI hV hT.i hS hl)
theorem dw_istore6 (F : FD X G ρ0 cc own ret d U) {a0 a1 a2 a3 a4 a5 : AV} {r : List AV} {x : Int} {w : AV} (hd : decode cc pc = .ok (.istore 6, 2)) (hw : (a0 :: a1 :: a2 :: a3 :: a4 :: a5 :: w :: r).all (fun v => !wide v) = true) (hn : (a0 :: a1 :: a2 :: a3 :: a4 :: a5 :: w :: r).length = G.2.2.2.1) (k : DW X G ρ0 L0 L (pc + 2) (a0 :: a1 :: a2 :: a3 :: a4 :: a5 :: aI x :: r) (st) (M, Rf) u Q) : DW X G ρ0 L0 L pc (a0 :: a1 :: a2 :: a3 :: a4 :: a5 :: w :: r) (aI x :: st) (M, Rf) u Q := by
  obtain ⟨p, l, e, R, s, m, args, below, meth, c⟩ := X
  obtain ⟨g, cy, A, nL, sx⟩ := G
  obtain ⟨hx, hb, hml, hown, hts, hK, hA, hlk, hret, hR, htr, hZ, hY⟩ := F
  intro ρ hρ hLE H locs ls hP hD hI hV hT hS hl
  have hn9 : _ = nL := hn
  refine lv_istore hx hb hd (lh_as hl) (by rw [← hn9]; simp only [List.length_cons]; omega) rfl (fun ls' h' => ?_)
  exact k ρ hρ hLE H locs ls' hP hD hI (hV.set (i := 6) RFd.int) hT.tl hS (lh_set (i := 6) (v := aI x) hl hw (by simp only [List.length_cons]; omega) h')
theorem dw_aload6 (F : FD X G ρ0 cc own ret d U) {a0 a1 a2 a3 a4 a5 : AV} {r : List AV} {x : Id4} (hd : decode cc pc = .ok (.aload 6, 2)) (k : DW X G ρ0 L0 L (pc + 2) (a0 :: a1 :: a2 :: a3 :: a4 :: a5 :: aR x :: r) (aR x :: st) (M, Rf) u Q) : DW X G ρ0 L0 L pc (a0 :: a1 :: a2 :: a3 :: a4 :: a5 :: aR x :: r) (st) (M, Rf) u Q := by
  obtain ⟨p, l, e, R, s, m, args, below, meth, c⟩ := X
  obtain ⟨g, cy, A, nL, sx⟩ := G
  obtain ⟨hx, hb, hml, hown, hts, hK, hA, hlk, hret, hR, htr, hZ, hY⟩ := F
  intro ρ hρ hLE H locs ls hP hD hI hV hT hS hl
  exact lv_aload hx hb hd (hl.2.2 6 (aR x) rfl rfl) (k ρ hρ hLE H locs ls hP hD hI hV (RFd.r (hV.at (i := 6) rfl) hT) hS hl)
theorem dw_astore6 (F : FD X G ρ0 cc own ret d U) {a0 a1 a2 a3 a4 a5 : AV} {r : List AV} {x : Id4} {w : AV} (hd : decode cc pc = .ok (.astore 6, 2)) (hw : (a0 :: a1 :: a2 :: a3 :: a4 :: a5 :: w :: r).all (fun v => !wide v) = true) (hn : (a0 :: a1 :: a2 :: a3 :: a4 :: a5 :: w :: r).length = G.2.2.2.1) (k : DW X G ρ0 L0 L (pc + 2) (a0 :: a1 :: a2 :: a3 :: a4 :: a5 :: aR x :: r) (st) (M, Rf) u Q) : DW X G ρ0 L0 L pc (a0 :: a1 :: a2 :: a3 :: a4 :: a5 :: w :: r) (aR x :: st) (M, Rf) u Q := by
  obtain ⟨p, l, e, R, s, m, args, below, meth, c⟩ := X
  obtain ⟨g, cy, A, nL, sx⟩ := G
  obtain ⟨hx, hb, hml, hown, hts, hK, hA, hlk, hret, hR, htr, hZ, hY⟩ := F
  intro ρ hρ hLE H locs ls hP hD hI hV hT hS hl
  have hn9 : _ = nL := hn
  refine lv_astore hx hb hd (lh_as hl) (by rw [← hn9]; simp only [List.length_cons]; omega) rfl (fun ls' h' => ?_)
  exact k ρ hρ hLE H locs ls' hP hD hI (hV.set (i := 6) (RFd.r hT.hd RFd.nil)) hT.tl hS (lh_set (i := 6) (v := aR x) hl hw (by simp only [List.length_cons]; omega) h')
theorem dw_iinc6 (F : FD X G ρ0 cc own ret d U) {a0 a1 a2 a3 a4 a5 : AV} {r : List AV} {x n : Int} (hd : decode cc pc = .ok (.iinc 6 n, 3)) (hw : (a0 :: a1 :: a2 :: a3 :: a4 :: a5 :: aI x :: r).all (fun v => !wide v) = true) (hn : (a0 :: a1 :: a2 :: a3 :: a4 :: a5 :: aI x :: r).length = G.2.2.2.1) (k : DW X G ρ0 L0 L (pc + 3) (a0 :: a1 :: a2 :: a3 :: a4 :: a5 :: aI (x + n) :: r) (st) (M, Rf) u Q) : DW X G ρ0 L0 L pc (a0 :: a1 :: a2 :: a3 :: a4 :: a5 :: aI x :: r) (st) (M, Rf) u Q := by
  obtain ⟨p, l, e, R, s, m, args, below, meth, c⟩ := X
  obtain ⟨g, cy, A, nL, sx⟩ := G
  obtain ⟨hx, hb, hml, hown, hts, hK, hA, hlk, hret, hR, htr, hZ, hY⟩ := F
  intro ρ hρ hLE H locs ls hP hD hI hV hT hS hl
  obtain ⟨j, hj⟩ := lh_mem (i := 6) (v := aI x) hl rfl rfl
  have hn9 : _ = nL := hn
  refine lv_iinc hx hb hd (lh_as hl) hj (v := Int32.ofInt (x + n)) (Int32.ofInt_add x n).symm (by rw [← hn9]; simp only [List.length_cons]; omega) rfl (fun ls' h' => ?_)
  exact k ρ hρ hLE H locs ls' hP hD hI (hV.set (i := 6) RFd.int) hT hS (lh_set (i := 6) (v := aI (x + n)) hl hw (by simp only [List.length_cons]; omega) h')
theorem dw_iload7 (F : FD X G ρ0 cc own ret d U) {a0 a1 a2 a3 a4 a5 a6 : AV} {r : List AV} {x : Int} (hd : decode cc pc = .ok (.iload 7, 2)) (k : DW X G ρ0 L0 L (pc + 2) (a0 :: a1 :: a2 :: a3 :: a4 :: a5 :: a6 :: aI x :: r) (aI x :: st) (M, Rf) u Q) : DW X G ρ0 L0 L pc (a0 :: a1 :: a2 :: a3 :: a4 :: a5 :: a6 :: aI x :: r) (st) (M, Rf) u Q := by
  obtain ⟨p, l, e, R, s, m, args, below, meth, c⟩ := X
  obtain ⟨g, cy, A, nL, sx⟩ := G
  obtain ⟨hx, hb, hml, hown, hts, hK, hA, hlk, hret, hR, htr, hZ, hY⟩ := F
  intro ρ hρ hLE H locs ls hP hD hI hV hT hS hl
  exact lv_iload hx hb hd (hl.2.2 7 (aI x) rfl rfl) (k ρ hρ hLE H locs ls hP hD hI hV hT.i hS hl)
theorem dw_istore7 (F : FD X G ρ0 cc own ret d U) {a0 a1 a2 a3 a4 a5 a6 : AV} {r : List AV} {x : Int} {w : AV} (hd : decode cc pc = .ok (.istore 7, 2)) (hw : (a0 :: a1 :: a2 :: a3 :: a4 :: a5 :: a6 :: w :: r).all (fun v => !wide v) = true) (hn : (a0 :: a1 :: a2 :: a3 :: a4 :: a5 :: a6 :: w :: r).length = G.2.2.2.1) (k : DW X G ρ0 L0 L (pc + 2) (a0 :: a1 :: a2 :: a3 :: a4 :: a5 :: a6 :: aI x :: r) (st) (M, Rf) u Q) : DW X G ρ0 L0 L pc (a0 :: a1 :: a2 :: a3 :: a4 :: a5 :: a6 :: w :: r) (aI x :: st) (M, Rf) u Q := by
  obtain ⟨p, l, e, R, s, m, args, below, meth, c⟩ := X
  obtain ⟨g, cy, A, nL, sx⟩ := G
  obtain ⟨hx, hb, hml, hown, hts, hK, hA, hlk, hret, hR, htr, hZ, hY⟩ := F
  intro ρ hρ hLE H locs ls hP hD hI hV hT hS hl
  have hn9 : _ = nL := hn
  refine lv_istore hx hb hd (lh_as hl) (by rw [← hn9]; simp only [List.length_cons]; omega) rfl (fun ls' h' => ?_)
  exact k ρ hρ hLE H locs ls' hP hD hI (hV.set (i := 7) RFd.int) hT.tl hS (lh_set (i := 7) (v := aI x) hl hw (by simp only [List.length_cons]; omega) h')
theorem dw_aload7 (F : FD X G ρ0 cc own ret d U) {a0 a1 a2 a3 a4 a5 a6 : AV} {r : List AV} {x : Id4} (hd : decode cc pc = .ok (.aload 7, 2)) (k : DW X G ρ0 L0 L (pc + 2) (a0 :: a1 :: a2 :: a3 :: a4 :: a5 :: a6 :: aR x :: r) (aR x :: st) (M, Rf) u Q) : DW X G ρ0 L0 L pc (a0 :: a1 :: a2 :: a3 :: a4 :: a5 :: a6 :: aR x :: r) (st) (M, Rf) u Q := by
  obtain ⟨p, l, e, R, s, m, args, below, meth, c⟩ := X
  obtain ⟨g, cy, A, nL, sx⟩ := G
  obtain ⟨hx, hb, hml, hown, hts, hK, hA, hlk, hret, hR, htr, hZ, hY⟩ := F
  intro ρ hρ hLE H locs ls hP hD hI hV hT hS hl
  exact lv_aload hx hb hd (hl.2.2 7 (aR x) rfl rfl) (k ρ hρ hLE H locs ls hP hD hI hV (RFd.r (hV.at (i := 7) rfl) hT) hS hl)
theorem dw_astore7 (F : FD X G ρ0 cc own ret d U) {a0 a1 a2 a3 a4 a5 a6 : AV} {r : List AV} {x : Id4} {w : AV} (hd : decode cc pc = .ok (.astore 7, 2)) (hw : (a0 :: a1 :: a2 :: a3 :: a4 :: a5 :: a6 :: w :: r).all (fun v => !wide v) = true) (hn : (a0 :: a1 :: a2 :: a3 :: a4 :: a5 :: a6 :: w :: r).length = G.2.2.2.1) (k : DW X G ρ0 L0 L (pc + 2) (a0 :: a1 :: a2 :: a3 :: a4 :: a5 :: a6 :: aR x :: r) (st) (M, Rf) u Q) : DW X G ρ0 L0 L pc (a0 :: a1 :: a2 :: a3 :: a4 :: a5 :: a6 :: w :: r) (aR x :: st) (M, Rf) u Q := by
  obtain ⟨p, l, e, R, s, m, args, below, meth, c⟩ := X
  obtain ⟨g, cy, A, nL, sx⟩ := G
  obtain ⟨hx, hb, hml, hown, hts, hK, hA, hlk, hret, hR, htr, hZ, hY⟩ := F
  intro ρ hρ hLE H locs ls hP hD hI hV hT hS hl
  have hn9 : _ = nL := hn
  refine lv_astore hx hb hd (lh_as hl) (by rw [← hn9]; simp only [List.length_cons]; omega) rfl (fun ls' h' => ?_)
  exact k ρ hρ hLE H locs ls' hP hD hI (hV.set (i := 7) (RFd.r hT.hd RFd.nil)) hT.tl hS (lh_set (i := 7) (v := aR x) hl hw (by simp only [List.length_cons]; omega) h')
theorem dw_iinc7 (F : FD X G ρ0 cc own ret d U) {a0 a1 a2 a3 a4 a5 a6 : AV} {r : List AV} {x n : Int} (hd : decode cc pc = .ok (.iinc 7 n, 3)) (hw : (a0 :: a1 :: a2 :: a3 :: a4 :: a5 :: a6 :: aI x :: r).all (fun v => !wide v) = true) (hn : (a0 :: a1 :: a2 :: a3 :: a4 :: a5 :: a6 :: aI x :: r).length = G.2.2.2.1) (k : DW X G ρ0 L0 L (pc + 3) (a0 :: a1 :: a2 :: a3 :: a4 :: a5 :: a6 :: aI (x + n) :: r) (st) (M, Rf) u Q) : DW X G ρ0 L0 L pc (a0 :: a1 :: a2 :: a3 :: a4 :: a5 :: a6 :: aI x :: r) (st) (M, Rf) u Q := by
  obtain ⟨p, l, e, R, s, m, args, below, meth, c⟩ := X
  obtain ⟨g, cy, A, nL, sx⟩ := G
  obtain ⟨hx, hb, hml, hown, hts, hK, hA, hlk, hret, hR, htr, hZ, hY⟩ := F
  intro ρ hρ hLE H locs ls hP hD hI hV hT hS hl
  obtain ⟨j, hj⟩ := lh_mem (i := 7) (v := aI x) hl rfl rfl
  have hn9 : _ = nL := hn
  refine lv_iinc hx hb hd (lh_as hl) hj (v := Int32.ofInt (x + n)) (Int32.ofInt_add x n).symm (by rw [← hn9]; simp only [List.length_cons]; omega) rfl (fun ls' h' => ?_)
  exact k ρ hρ hLE H locs ls' hP hD hI (hV.set (i := 7) RFd.int) hT hS (lh_set (i := 7) (v := aI (x + n)) hl hw (by simp only [List.length_cons]; omega) h')
theorem dw_iload8 (F : FD X G ρ0 cc own ret d U) {a0 a1 a2 a3 a4 a5 a6 a7 : AV} {r : List AV} {x : Int} (hd : decode cc pc = .ok (.iload 8, 2)) (k : DW X G ρ0 L0 L (pc + 2) (a0 :: a1 :: a2 :: a3 :: a4 :: a5 :: a6 :: a7 :: aI x :: r) (aI x :: st) (M, Rf) u Q) : DW X G ρ0 L0 L pc (a0 :: a1 :: a2 :: a3 :: a4 :: a5 :: a6 :: a7 :: aI x :: r) (st) (M, Rf) u Q := by
  obtain ⟨p, l, e, R, s, m, args, below, meth, c⟩ := X
  obtain ⟨g, cy, A, nL, sx⟩ := G
  obtain ⟨hx, hb, hml, hown, hts, hK, hA, hlk, hret, hR, htr, hZ, hY⟩ := F
  intro ρ hρ hLE H locs ls hP hD hI hV hT hS hl
  exact lv_iload hx hb hd (hl.2.2 8 (aI x) rfl rfl) (k ρ hρ hLE H locs ls hP hD hI hV hT.i hS hl)
theorem dw_istore8 (F : FD X G ρ0 cc own ret d U) {a0 a1 a2 a3 a4 a5 a6 a7 : AV} {r : List AV} {x : Int} {w : AV} (hd : decode cc pc = .ok (.istore 8, 2)) (hw : (a0 :: a1 :: a2 :: a3 :: a4 :: a5 :: a6 :: a7 :: w :: r).all (fun v => !wide v) = true) (hn : (a0 :: a1 :: a2 :: a3 :: a4 :: a5 :: a6 :: a7 :: w :: r).length = G.2.2.2.1) (k : DW X G ρ0 L0 L (pc + 2) (a0 :: a1 :: a2 :: a3 :: a4 :: a5 :: a6 :: a7 :: aI x :: r) (st) (M, Rf) u Q) : DW X G ρ0 L0 L pc (a0 :: a1 :: a2 :: a3 :: a4 :: a5 :: a6 :: a7 :: w :: r) (aI x :: st) (M, Rf) u Q := by
  obtain ⟨p, l, e, R, s, m, args, below, meth, c⟩ := X
  obtain ⟨g, cy, A, nL, sx⟩ := G
  obtain ⟨hx, hb, hml, hown, hts, hK, hA, hlk, hret, hR, htr, hZ, hY⟩ := F
  intro ρ hρ hLE H locs ls hP hD hI hV hT hS hl
  have hn9 : _ = nL := hn
  refine lv_istore hx hb hd (lh_as hl) (by rw [← hn9]; simp only [List.length_cons]; omega) rfl (fun ls' h' => ?_)
  exact k ρ hρ hLE H locs ls' hP hD hI (hV.set (i := 8) RFd.int) hT.tl hS (lh_set (i := 8) (v := aI x) hl hw (by simp only [List.length_cons]; omega) h')
theorem dw_aload8 (F : FD X G ρ0 cc own ret d U) {a0 a1 a2 a3 a4 a5 a6 a7 : AV} {r : List AV} {x : Id4} (hd : decode cc pc = .ok (.aload 8, 2)) (k : DW X G ρ0 L0 L (pc + 2) (a0 :: a1 :: a2 :: a3 :: a4 :: a5 :: a6 :: a7 :: aR x :: r) (aR x :: st) (M, Rf) u Q) : DW X G ρ0 L0 L pc (a0 :: a1 :: a2 :: a3 :: a4 :: a5 :: a6 :: a7 :: aR x :: r) (st) (M, Rf) u Q := by
  obtain ⟨p, l, e, R, s, m, args, below, meth, c⟩ := X
  obtain ⟨g, cy, A, nL, sx⟩ := G
  obtain ⟨hx, hb, hml, hown, hts, hK, hA, hlk, hret, hR, htr, hZ, hY⟩ := F
  intro ρ hρ hLE H locs ls hP hD hI hV hT hS hl
  exact lv_aload hx hb hd (hl.2.2 8 (aR x) rfl rfl) (k ρ hρ hLE H locs ls hP hD hI hV (RFd.r (hV.at (i := 8) rfl) hT) hS hl)
theorem dw_astore8 (F : FD X G ρ0 cc own ret d U) {a0 a1 a2 a3 a4 a5 a6 a7 : AV} {r : List AV} {x : Id4} {w : AV} (hd : decode cc pc = .ok (.astore 8, 2)) (hw : (a0 :: a1 :: a2 :: a3 :: a4 :: a5 :: a6 :: a7 :: w :: r).all (fun v => !wide v) = true) (hn : (a0 :: a1 :: a2 :: a3 :: a4 :: a5 :: a6 :: a7 :: w :: r).length = G.2.2.2.1) (k : DW X G ρ0 L0 L (pc + 2) (a0 :: a1 :: a2 :: a3 :: a4 :: a5 :: a6 :: a7 :: aR x :: r) (st) (M, Rf) u Q) : DW X G ρ0 L0 L pc (a0 :: a1 :: a2 :: a3 :: a4 :: a5 :: a6 :: a7 :: w :: r) (aR x :: st) (M, Rf) u Q := by
  obtain ⟨p, l, e, R, s, m, args, below, meth, c⟩ := X
  obtain ⟨g, cy, A, nL, sx⟩ := G
  obtain ⟨hx, hb, hml, hown, hts, hK, hA, hlk, hret, hR, htr, hZ, hY⟩ := F
  intro ρ hρ hLE H locs ls hP hD hI hV hT hS hl
  have hn9 : _ = nL := hn
  refine lv_astore hx hb hd (lh_as hl) (by rw [← hn9]; simp only [List.length_cons]; omega) rfl (fun ls' h' => ?_)
  exact k ρ hρ hLE H locs ls' hP hD hI (hV.set (i := 8) (RFd.r hT.hd RFd.nil)) hT.tl hS (lh_set (i := 8) (v := aR x) hl hw (by simp only [List.length_cons]; omega) h')
theorem dw_iinc8 (F : FD X G ρ0 cc own ret d U) {a0 a1 a2 a3 a4 a5 a6 a7 : AV} {r : List AV} {x n : Int} (hd : decode cc pc = .ok (.iinc 8 n, 3)) (hw : (a0 :: a1 :: a2 :: a3 :: a4 :: a5 :: a6 :: a7 :: aI x :: r).all (fun v => !wide v) = true) (hn : (a0 :: a1 :: a2 :: a3 :: a4 :: a5 :: a6 :: a7 :: aI x :: r).length = G.2.2.2.1) (k : DW X G ρ0 L0 L (pc + 3) (a0 :: a1 :: a2 :: a3 :: a4 :: a5 :: a6 :: a7 :: aI (x + n) :: r) (st) (M, Rf) u Q) : DW X G ρ0 L0 L pc (a0 :: a1 :: a2 :: a3 :: a4 :: a5 :: a6 :: a7 :: aI x :: r) (st) (M, Rf) u Q := by
  obtain ⟨p, l, e, R, s, m, args, below, meth, c⟩ := X
  obtain ⟨g, cy, A, nL, sx⟩ := G
  obtain ⟨hx, hb, hml, hown, hts, hK, hA, hlk, hret, hR, htr, hZ, hY⟩ := F
  intro ρ hρ hLE H locs ls hP hD hI hV hT hS hl
  obtain ⟨j, hj⟩ := lh_mem (i := 8) (v := aI x) hl rfl rfl
  have hn9 : _ = nL := hn
  refine lv_iinc hx hb hd (lh_as hl) hj (v := Int32.ofInt (x + n)) (Int32.ofInt_add x n).symm (by rw [← hn9]; simp only [List.length_cons]; omega) rfl (fun ls' h' => ?_)
  exact k ρ hρ hLE H locs ls' hP hD hI (hV.set (i := 8) RFd.int) hT hS (lh_set (i := 8) (v := aI (x + n)) hl hw (by simp only [List.length_cons]; omega) h')
theorem dw_iload9 (F : FD X G ρ0 cc own ret d U) {a0 a1 a2 a3 a4 a5 a6 a7 a8 : AV} {r : List AV} {x : Int} (hd : decode cc pc = .ok (.iload 9, 2)) (k : DW X G ρ0 L0 L (pc + 2) (a0 :: a1 :: a2 :: a3 :: a4 :: a5 :: a6 :: a7 :: a8 :: aI x :: r) (aI x :: st) (M, Rf) u Q) : DW X G ρ0 L0 L pc (a0 :: a1 :: a2 :: a3 :: a4 :: a5 :: a6 :: a7 :: a8 :: aI x :: r) (st) (M, Rf) u Q := by
  obtain ⟨p, l, e, R, s, m, args, below, meth, c⟩ := X
  obtain ⟨g, cy, A, nL, sx⟩ := G
  obtain ⟨hx, hb, hml, hown, hts, hK, hA, hlk, hret, hR, htr, hZ, hY⟩ := F
  intro ρ hρ hLE H locs ls hP hD hI hV hT hS hl
  exact lv_iload hx hb hd (hl.2.2 9 (aI x) rfl rfl) (k ρ hρ hLE H locs ls hP hD hI hV hT.i hS hl)
theorem dw_istore9 (F : FD X G ρ0 cc own ret d U) {a0 a1 a2 a3 a4 a5 a6 a7 a8 : AV} {r : List AV} {x : Int} {w : AV} (hd : decode cc pc = .ok (.istore 9, 2)) (hw : (a0 :: a1 :: a2 :: a3 :: a4 :: a5 :: a6 :: a7 :: a8 :: w :: r).all (fun v => !wide v) = true) (hn : (a0 :: a1 :: a2 :: a3 :: a4 :: a5 :: a6 :: a7 :: a8 :: w :: r).length = G.2.2.2.1) (k : DW X G ρ0 L0 L (pc + 2) (a0 :: a1 :: a2 :: a3 :: a4 :: a5 :: a6 :: a7 :: a8 :: aI x :: r) (st) (M, Rf) u Q) : DW X G ρ0 L0 L pc (a0 :: a1 :: a2 :: a3 :: a4 :: a5 :: a6 :: a7 :: a8 :: w :: r) (aI x :: st) (M, Rf) u Q := by
  obtain ⟨p, l, e, R, s, m, args, below, meth, c⟩ := X
  obtain ⟨g, cy, A, nL, sx⟩ := G
  obtain ⟨hx, hb, hml, hown, hts, hK, hA, hlk, hret, hR, htr, hZ, hY⟩ := F
  intro ρ hρ hLE H locs ls hP hD hI hV hT hS hl
  have hn9 : _ = nL := hn
  refine lv_istore hx hb hd (lh_as hl) (by rw [← hn9]; simp only [List.length_cons]; omega) rfl (fun ls' h' => ?_)
  exact k ρ hρ hLE H locs ls' hP hD hI (hV.set (i := 9) RFd.int) hT.tl hS (lh_set (i := 9) (v := aI x) hl hw (by simp only [List.length_cons]; omega) h')
theorem dw_aload9 (F : FD X G ρ0 cc own ret d U) {a0 a1 a2 a3 a4 a5 a6 a7 a8 : AV} {r : List AV} {x : Id4} (hd : decode cc pc = .ok (.aload 9, 2)) (k : DW X G ρ0 L0 L (pc + 2) (a0 :: a1 :: a2 :: a3 :: a4 :: a5 :: a6 :: a7 :: a8 :: aR x :: r) (aR x :: st) (M, Rf) u Q) : DW X G ρ0 L0 L pc (a0 :: a1 :: a2 :: a3 :: a4 :: a5 :: a6 :: a7 :: a8 :: aR x :: r) (st) (M, Rf) u Q := by
  obtain ⟨p, l, e, R, s, m, args, below, meth, c⟩ := X
  obtain ⟨g, cy, A, nL, sx⟩ := G
  obtain ⟨hx, hb, hml, hown, hts, hK, hA, hlk, hret, hR, htr, hZ, hY⟩ := F
  intro ρ hρ hLE H locs ls hP hD hI hV hT hS hl
  exact lv_aload hx hb hd (hl.2.2 9 (aR x) rfl rfl) (k ρ hρ hLE H locs ls hP hD hI hV (RFd.r (hV.at (i := 9) rfl) hT) hS hl)
theorem dw_astore9 (F : FD X G ρ0 cc own ret d U) {a0 a1 a2 a3 a4 a5 a6 a7 a8 : AV} {r : List AV} {x : Id4} {w : AV} (hd : decode cc pc = .ok (.astore 9, 2)) (hw : (a0 :: a1 :: a2 :: a3 :: a4 :: a5 :: a6 :: a7 :: a8 :: w :: r).all (fun v => !wide v) = true) (hn : (a0 :: a1 :: a2 :: a3 :: a4 :: a5 :: a6 :: a7 :: a8 :: w :: r).length = G.2.2.2.1) (k : DW X G ρ0 L0 L (pc + 2) (a0 :: a1 :: a2 :: a3 :: a4 :: a5 :: a6 :: a7 :: a8 :: aR x :: r) (st) (M, Rf) u Q) : DW X G ρ0 L0 L pc (a0 :: a1 :: a2 :: a3 :: a4 :: a5 :: a6 :: a7 :: a8 :: w :: r) (aR x :: st) (M, Rf) u Q := by
  obtain ⟨p, l, e, R, s, m, args, below, meth, c⟩ := X
  obtain ⟨g, cy, A, nL, sx⟩ := G
  obtain ⟨hx, hb, hml, hown, hts, hK, hA, hlk, hret, hR, htr, hZ, hY⟩ := F
  intro ρ hρ hLE H locs ls hP hD hI hV hT hS hl
  have hn9 : _ = nL := hn
  refine lv_astore hx hb hd (lh_as hl) (by rw [← hn9]; simp only [List.length_cons]; omega) rfl (fun ls' h' => ?_)
  exact k ρ hρ hLE H locs ls' hP hD hI (hV.set (i := 9) (RFd.r hT.hd RFd.nil)) hT.tl hS (lh_set (i := 9) (v := aR x) hl hw (by simp only [List.length_cons]; omega) h')
theorem dw_iinc9 (F : FD X G ρ0 cc own ret d U) {a0 a1 a2 a3 a4 a5 a6 a7 a8 : AV} {r : List AV} {x n : Int} (hd : decode cc pc = .ok (.iinc 9 n, 3)) (hw : (a0 :: a1 :: a2 :: a3 :: a4 :: a5 :: a6 :: a7 :: a8 :: aI x :: r).all (fun v => !wide v) = true) (hn : (a0 :: a1 :: a2 :: a3 :: a4 :: a5 :: a6 :: a7 :: a8 :: aI x :: r).length = G.2.2.2.1) (k : DW X G ρ0 L0 L (pc + 3) (a0 :: a1 :: a2 :: a3 :: a4 :: a5 :: a6 :: a7 :: a8 :: aI (x + n) :: r) (st) (M, Rf) u Q) : DW X G ρ0 L0 L pc (a0 :: a1 :: a2 :: a3 :: a4 :: a5 :: a6 :: a7 :: a8 :: aI x :: r) (st) (M, Rf) u Q := by
  obtain ⟨p, l, e, R, s, m, args, below, meth, c⟩ := X
  obtain ⟨g, cy, A, nL, sx⟩ := G
  obtain ⟨hx, hb, hml, hown, hts, hK, hA, hlk, hret, hR, htr, hZ, hY⟩ := F
  intro ρ hρ hLE H locs ls hP hD hI hV hT hS hl
  obtain ⟨j, hj⟩ := lh_mem (i := 9) (v := aI x) hl rfl rfl
  have hn9 : _ = nL := hn
  refine lv_iinc hx hb hd (lh_as hl) hj (v := Int32.ofInt (x + n)) (Int32.ofInt_add x n).symm (by rw [← hn9]; simp only [List.length_cons]; omega) rfl (fun ls' h' => ?_)
  exact k ρ hρ hLE H locs ls' hP hD hI (hV.set (i := 9) RFd.int) hT hS (lh_set (i := 9) (v := aI (x + n)) hl hw (by simp only [List.length_cons]; omega) h')
theorem dw_icmp_eq (F : FD X G ρ0 cc own ret d U) {x y : Int} {off : Int} {tgt : Nat} (hd : decode cc pc = .ok (.if_icmp .eq off, 3)) (ht : (pc : Int) + off = (tgt : Int)) (hx2 : inR x) (hy : inR y) (kt : x = y → DW X G ρ0 L0 L tgt lv (st) (M, Rf) u Q) (kf : ¬ x = y → DW X G ρ0 L0 L (pc + 3) lv (st) (M, Rf) u Q) : DW X G ρ0 L0 L pc lv (aI y :: aI x :: st) (M, Rf) u Q := by
  obtain ⟨p, l, e, R, s, m, args, below, meth, c⟩ := X
  obtain ⟨g, cy, A, nL, sx⟩ := G
  obtain ⟨hx, hb, hml, hown, hts, hK, hA, hlk, hret, hR, htr, hZ, hY⟩ := F
  intro ρ hρ hLE H locs ls hP hD hI hV hT hS hl
  exact lv_icmp_eq hx hb hd ht (fun h => kt ((oi_eq hx2 hy).mp h) ρ hρ hLE H locs ls hP hD hI hV hT.tl.tl hS hl) (fun h => kf (fun z => h (by rw [z])) ρ hρ hLE H locs ls hP hD hI hV hT.tl.tl hS hl)
theorem dw_icmp_ne (F : FD X G ρ0 cc own ret d U) {x y : Int} {off : Int} {tgt : Nat} (hd : decode cc pc = .ok (.if_icmp .ne off, 3)) (ht : (pc : Int) + off = (tgt : Int)) (hx2 : inR x) (hy : inR y) (kt : ¬ x = y → DW X G ρ0 L0 L tgt lv (st) (M, Rf) u Q) (kf : x = y → DW X G ρ0 L0 L (pc + 3) lv (st) (M, Rf) u Q) : DW X G ρ0 L0 L pc lv (aI y :: aI x :: st) (M, Rf) u Q := by
  obtain ⟨p, l, e, R, s, m, args, below, meth, c⟩ := X
  obtain ⟨g, cy, A, nL, sx⟩ := G
  obtain ⟨hx, hb, hml, hown, hts, hK, hA, hlk, hret, hR, htr, hZ, hY⟩ := F
  intro ρ hρ hLE H locs ls hP hD hI hV hT hS hl
  exact lv_icmp_ne hx hb hd ht (fun h => kt (fun z => h (by rw [z])) ρ hρ hLE H locs ls hP hD hI hV hT.tl.tl hS hl) (fun h => kf ((oi_eq hx2 hy).mp h) ρ hρ hLE H locs ls hP hD hI hV hT.tl.tl hS hl)
theorem dw_icmp_lt (F : FD X G ρ0 cc own ret d U) {x y : Int} {off : Int} {tgt : Nat} (hd : decode cc pc = .ok (.if_icmp .lt off, 3)) (ht : (pc : Int) + off = (tgt : Int)) (hx2 : inR x) (hy : inR y) (kt : x < y → DW X G ρ0 L0 L tgt lv (st) (M, Rf) u Q) (kf : y ≤ x → DW X G ρ0 L0 L (pc + 3) lv (st) (M, Rf) u Q) : DW X G ρ0 L0 L pc lv (aI y :: aI x :: st) (M, Rf) u Q := by
  obtain ⟨p, l, e, R, s, m, args, below, meth, c⟩ := X
  obtain ⟨g, cy, A, nL, sx⟩ := G
  obtain ⟨hx, hb, hml, hown, hts, hK, hA, hlk, hret, hR, htr, hZ, hY⟩ := F
  intro ρ hρ hLE H locs ls hP hD hI hV hT hS hl
  exact lv_icmp_lt hx hb hd ht (fun h => kt ((oi_lt hx2 hy).mp h) ρ hρ hLE H locs ls hP hD hI hV hT.tl.tl hS hl) (fun h => kf (Int.not_lt.mp (fun z => h ((oi_lt hx2 hy).mpr z))) ρ hρ hLE H locs ls hP hD hI hV hT.tl.tl hS hl)
theorem dw_icmp_ge (F : FD X G ρ0 cc own ret d U) {x y : Int} {off : Int} {tgt : Nat} (hd : decode cc pc = .ok (.if_icmp .ge off, 3)) (ht : (pc : Int) + off = (tgt : Int)) (hx2 : inR x) (hy : inR y) (kt : y ≤ x → DW X G ρ0 L0 L tgt lv (st) (M, Rf) u Q) (kf : x < y → DW X G ρ0 L0 L (pc + 3) lv (st) (M, Rf) u Q) : DW X G ρ0 L0 L pc lv (aI y :: aI x :: st) (M, Rf) u Q := by
  obtain ⟨p, l, e, R, s, m, args, below, meth, c⟩ := X
  obtain ⟨g, cy, A, nL, sx⟩ := G
  obtain ⟨hx, hb, hml, hown, hts, hK, hA, hlk, hret, hR, htr, hZ, hY⟩ := F
  intro ρ hρ hLE H locs ls hP hD hI hV hT hS hl
  exact lv_icmp_ge hx hb hd ht (fun h => kt ((oi_le hy hx2).mp h) ρ hρ hLE H locs ls hP hD hI hV hT.tl.tl hS hl) (fun h => kf (Int.not_le.mp (fun z => h ((oi_le hy hx2).mpr z))) ρ hρ hLE H locs ls hP hD hI hV hT.tl.tl hS hl)
theorem dw_icmp_gt (F : FD X G ρ0 cc own ret d U) {x y : Int} {off : Int} {tgt : Nat} (hd : decode cc pc = .ok (.if_icmp .gt off, 3)) (ht : (pc : Int) + off = (tgt : Int)) (hx2 : inR x) (hy : inR y) (kt : y < x → DW X G ρ0 L0 L tgt lv (st) (M, Rf) u Q) (kf : x ≤ y → DW X G ρ0 L0 L (pc + 3) lv (st) (M, Rf) u Q) : DW X G ρ0 L0 L pc lv (aI y :: aI x :: st) (M, Rf) u Q := by
  obtain ⟨p, l, e, R, s, m, args, below, meth, c⟩ := X
  obtain ⟨g, cy, A, nL, sx⟩ := G
  obtain ⟨hx, hb, hml, hown, hts, hK, hA, hlk, hret, hR, htr, hZ, hY⟩ := F
  intro ρ hρ hLE H locs ls hP hD hI hV hT hS hl
  exact lv_icmp_gt hx hb hd ht (fun h => kt ((oi_lt hy hx2).mp h) ρ hρ hLE H locs ls hP hD hI hV hT.tl.tl hS hl) (fun h => kf (Int.not_lt.mp (fun z => h ((oi_lt hy hx2).mpr z))) ρ hρ hLE H locs ls hP hD hI hV hT.tl.tl hS hl)
theorem dw_icmp_le (F : FD X G ρ0 cc own ret d U) {x y : Int} {off : Int} {tgt : Nat} (hd : decode cc pc = .ok (.if_icmp .le off, 3)) (ht : (pc : Int) + off = (tgt : Int)) (hx2 : inR x) (hy : inR y) (kt : x ≤ y → DW X G ρ0 L0 L tgt lv (st) (M, Rf) u Q) (kf : y < x → DW X G ρ0 L0 L (pc + 3) lv (st) (M, Rf) u Q) : DW X G ρ0 L0 L pc lv (aI y :: aI x :: st) (M, Rf) u Q := by
  obtain ⟨p, l, e, R, s, m, args, below, meth, c⟩ := X
  obtain ⟨g, cy, A, nL, sx⟩ := G
  obtain ⟨hx, hb, hml, hown, hts, hK, hA, hlk, hret, hR, htr, hZ, hY⟩ := F
  intro ρ hρ hLE H locs ls hP hD hI hV hT hS hl
  exact lv_icmp_le hx hb hd ht (fun h => kt ((oi_le hx2 hy).mp h) ρ hρ hLE H locs ls hP hD hI hV hT.tl.tl hS hl) (fun h => kf (Int.not_le.mp (fun z => h ((oi_le hx2 hy).mpr z))) ρ hρ hLE H locs ls hP hD hI hV hT.tl.tl hS hl)
theorem dw_if_eq (F : FD X G ρ0 cc own ret d U) {x : Int} {off : Int} {tgt : Nat} (hd : decode cc pc = .ok (.ifCond .eq off, 3)) (ht : (pc : Int) + off = (tgt : Int)) (hx2 : inR x) (kt : x = 0 → DW X G ρ0 L0 L tgt lv (st) (M, Rf) u Q) (kf : ¬ x = 0 → DW X G ρ0 L0 L (pc + 3) lv (st) (M, Rf) u Q) : DW X G ρ0 L0 L pc lv (aI x :: st) (M, Rf) u Q := by
  obtain ⟨p, l, e, R, s, m, args, below, meth, c⟩ := X
  obtain ⟨g, cy, A, nL, sx⟩ := G
  obtain ⟨hx, hb, hml, hown, hts, hK, hA, hlk, hret, hR, htr, hZ, hY⟩ := F
  intro ρ hρ hLE H locs ls hP hD hI hV hT hS hl
  exact lv_if_eq hx hb hd ht (fun h => kt ((oi_eq hx2 inR0).mp h) ρ hρ hLE H locs ls hP hD hI hV hT.tl hS hl) (fun h => kf (fun z => h (by rw [z]; rfl)) ρ hρ hLE H locs ls hP hD hI hV hT.tl hS hl)
theorem dw_if_ne (F : FD X G ρ0 cc own ret d U) {x : Int} {off : Int} {tgt : Nat} (hd : decode cc pc = .ok (.ifCond .ne off, 3)) (ht : (pc : Int) + off = (tgt : Int)) (hx2 : inR x) (kt : ¬ x = 0 → DW X G ρ0 L0 L tgt lv (st) (M, Rf) u Q) (kf : x = 0 → DW X G ρ0 L0 L (pc + 3) lv (st) (M, Rf) u Q) : DW X G ρ0 L0 L pc lv (aI x :: st) (M, Rf) u Q := by
  obtain ⟨p, l, e, R, s, m, args, below, meth, c⟩ := X
  obtain ⟨g, cy, A, nL, sx⟩ := G
  obtain ⟨hx, hb, hml, hown, hts, hK, hA, hlk, hret, hR, htr, hZ, hY⟩ := F
  intro ρ hρ hLE H locs ls hP hD hI hV hT hS hl
  exact lv_if_ne hx hb hd ht (fun h => kt (fun z => h (by rw [z]; rfl)) ρ hρ hLE H locs ls hP hD hI hV hT.tl hS hl) (fun h => kf ((oi_eq hx2 inR0).mp h) ρ hρ hLE H locs ls hP hD hI hV hT.tl hS hl)
theorem dw_if_lt (F : FD X G ρ0 cc own ret d U) {x : Int} {off : Int} {tgt : Nat} (hd : decode cc pc = .ok (.ifCond .lt off, 3)) (ht : (pc : Int) + off = (tgt : Int)) (hx2 : inR x) (kt : x < 0 → DW X G ρ0 L0 L tgt lv (st) (M, Rf) u Q) (kf : 0 ≤ x → DW X G ρ0 L0 L (pc + 3) lv (st) (M, Rf) u Q) : DW X G ρ0 L0 L pc lv (aI x :: st) (M, Rf) u Q := by
  obtain ⟨p, l, e, R, s, m, args, below, meth, c⟩ := X
  obtain ⟨g, cy, A, nL, sx⟩ := G
  obtain ⟨hx, hb, hml, hown, hts, hK, hA, hlk, hret, hR, htr, hZ, hY⟩ := F
  intro ρ hρ hLE H locs ls hP hD hI hV hT hS hl
  exact lv_if_lt hx hb hd ht (fun h => kt ((oi_lt hx2 inR0).mp h) ρ hρ hLE H locs ls hP hD hI hV hT.tl hS hl) (fun h => kf (Int.not_lt.mp (fun z => h ((oi_lt hx2 inR0).mpr z))) ρ hρ hLE H locs ls hP hD hI hV hT.tl hS hl)
theorem dw_if_ge (F : FD X G ρ0 cc own ret d U) {x : Int} {off : Int} {tgt : Nat} (hd : decode cc pc = .ok (.ifCond .ge off, 3)) (ht : (pc : Int) + off = (tgt : Int)) (hx2 : inR x) (kt : 0 ≤ x → DW X G ρ0 L0 L tgt lv (st) (M, Rf) u Q) (kf : x < 0 → DW X G ρ0 L0 L (pc + 3) lv (st) (M, Rf) u Q) : DW X G ρ0 L0 L pc lv (aI x :: st) (M, Rf) u Q := by
  obtain ⟨p, l, e, R, s, m, args, below, meth, c⟩ := X
  obtain ⟨g, cy, A, nL, sx⟩ := G
  obtain ⟨hx, hb, hml, hown, hts, hK, hA, hlk, hret, hR, htr, hZ, hY⟩ := F
  intro ρ hρ hLE H locs ls hP hD hI hV hT hS hl
  exact lv_if_ge hx hb hd ht (fun h => kt ((oi_le inR0 hx2).mp h) ρ hρ hLE H locs ls hP hD hI hV hT.tl hS hl) (fun h => kf (Int.not_le.mp (fun z => h ((oi_le inR0 hx2).mpr z))) ρ hρ hLE H locs ls hP hD hI hV hT.tl hS hl)
theorem dw_if_gt (F : FD X G ρ0 cc own ret d U) {x : Int} {off : Int} {tgt : Nat} (hd : decode cc pc = .ok (.ifCond .gt off, 3)) (ht : (pc : Int) + off = (tgt : Int)) (hx2 : inR x) (kt : 0 < x → DW X G ρ0 L0 L tgt lv (st) (M, Rf) u Q) (kf : x ≤ 0 → DW X G ρ0 L0 L (pc + 3) lv (st) (M, Rf) u Q) : DW X G ρ0 L0 L pc lv (aI x :: st) (M, Rf) u Q := by
  obtain ⟨p, l, e, R, s, m, args, below, meth, c⟩ := X
  obtain ⟨g, cy, A, nL, sx⟩ := G
  obtain ⟨hx, hb, hml, hown, hts, hK, hA, hlk, hret, hR, htr, hZ, hY⟩ := F
  intro ρ hρ hLE H locs ls hP hD hI hV hT hS hl
  exact lv_if_gt hx hb hd ht (fun h => kt ((oi_lt inR0 hx2).mp h) ρ hρ hLE H locs ls hP hD hI hV hT.tl hS hl) (fun h => kf (Int.not_lt.mp (fun z => h ((oi_lt inR0 hx2).mpr z))) ρ hρ hLE H locs ls hP hD hI hV hT.tl hS hl)
theorem dw_if_le (F : FD X G ρ0 cc own ret d U) {x : Int} {off : Int} {tgt : Nat} (hd : decode cc pc = .ok (.ifCond .le off, 3)) (ht : (pc : Int) + off = (tgt : Int)) (hx2 : inR x) (kt : x ≤ 0 → DW X G ρ0 L0 L tgt lv (st) (M, Rf) u Q) (kf : 0 < x → DW X G ρ0 L0 L (pc + 3) lv (st) (M, Rf) u Q) : DW X G ρ0 L0 L pc lv (aI x :: st) (M, Rf) u Q := by
  obtain ⟨p, l, e, R, s, m, args, below, meth, c⟩ := X
  obtain ⟨g, cy, A, nL, sx⟩ := G
  obtain ⟨hx, hb, hml, hown, hts, hK, hA, hlk, hret, hR, htr, hZ, hY⟩ := F
  intro ρ hρ hLE H locs ls hP hD hI hV hT hS hl
  exact lv_if_le hx hb hd ht (fun h => kt ((oi_le hx2 inR0).mp h) ρ hρ hLE H locs ls hP hD hI hV hT.tl hS hl) (fun h => kf (Int.not_le.mp (fun z => h ((oi_le hx2 inR0).mpr z))) ρ hρ hLE H locs ls hP hD hI hV hT.tl hS hl)
theorem dw_goto (F : FD X G ρ0 cc own ret d U) {off : Int} {tgt : Nat} (hd : decode cc pc = .ok (.goto off, 3)) (ht : (pc : Int) + off = (tgt : Int)) (k : DW X G ρ0 L0 L tgt lv (st) (M, Rf) u Q) : DW X G ρ0 L0 L pc lv (st) (M, Rf) u Q := by
  obtain ⟨p, l, e, R, s, m, args, below, meth, c⟩ := X
  obtain ⟨g, cy, A, nL, sx⟩ := G
  obtain ⟨hx, hb, hml, hown, hts, hK, hA, hlk, hret, hR, htr, hZ, hY⟩ := F
  intro ρ hρ hLE H locs ls hP hD hI hV hT hS hl
  exact lv_goto hx hb hd ht (k ρ hρ hLE H locs ls hP hD hI hV hT hS hl)
theorem dw_nonnull (F : FD X G ρ0 cc own ret d U) {x : Id4} {off : Int} {tgt : Nat} (hd : decode cc pc = .ok (.ifnonnull off, 3)) (ht : (pc : Int) + off = (tgt : Int)) (k : DW X G ρ0 L0 L tgt lv (st) (M, Rf) u Q) : DW X G ρ0 L0 L pc lv (aR x :: st) (M, Rf) u Q := by
  obtain ⟨p, l, e, R, s, m, args, below, meth, c⟩ := X
  obtain ⟨g, cy, A, nL, sx⟩ := G
  obtain ⟨hx, hb, hml, hown, hts, hK, hA, hlk, hret, hR, htr, hZ, hY⟩ := F
  intro ρ hρ hLE H locs ls hP hD hI hV hT hS hl
  exact lv_ifnonnull hx hb hd ht (k ρ hρ hLE H locs ls hP hD hI hV hT.tl hS hl)
theorem dw_getI (F : FD X G ρ0 cc own ret d U) {q : Id4} {t f idx : Nat} {fz : Int}  (hd : decode cc pc = .ok (.getfield idx, 3)) (hf : FL own idx t f) (hk : kd q = .inl t) (hm : q ∈ L) (hr : rfF t f = false) (hz : (f : Int) = fz) (k : DW X G ρ0 L0 L (pc + 3) lv (aI (M q fz) :: st) (M, Rf) u Q) : DW X G ρ0 L0 L pc lv (aR q :: st) (M, Rf) u Q := by
  obtain ⟨p, l, e, R, s, m, args, below, meth, c⟩ := X
  obtain ⟨g, cy, A, nL, sx⟩ := G
  obtain ⟨hx, hb, hml, hown, hts, hK, hA, hlk, hret, hR, htr, hZ, hY⟩ := F
  intro ρ hρ hLE H locs ls hP hD hI hV hT hS hl
  subst hz
  obtain ⟨r, hr1, hr2, hr3, hr4⟩ := hf
  obtain ⟨i, hi, hi2⟩ := ws_at (ρ := ρ) (cy := cy) (σ := (M, Rf)) hm
  rw [ent_obj hk] at hi2
  exact va_get (fs := flds ρ (M, Rf) q t) hx hb hts (clsOK t r hr1).2 hown hK hP i hi2 hr1 f hr2 (hts _ hr4) (fun _ h => h) (fl_int (by omega) hr) hd (k ρ hρ hLE H locs ls hP hD hI hV hT.tl.i hS hl)
theorem dw_getR (F : FD X G ρ0 cc own ret d U) {q : Id4} {t f idx : Nat} {fz : Int}  {q2 : Id4} (hd : decode cc pc = .ok (.getfield idx, 3)) (hf : FL own idx t f) (hk : kd q = .inl t) (hm : q ∈ L) (hr : rfF t f = true) (hz : (f : Int) = fz) (hq : Rf q fz = some q2) (k : DW X G ρ0 L0 L (pc + 3) lv (aR q2 :: st) (M, Rf) u Q) : DW X G ρ0 L0 L pc lv (aR q :: st) (M, Rf) u Q := by
  obtain ⟨p, l, e, R, s, m, args, below, meth, c⟩ := X
  obtain ⟨g, cy, A, nL, sx⟩ := G
  obtain ⟨hx, hb, hml, hown, hts, hK, hA, hlk, hret, hR, htr, hZ, hY⟩ := F
  intro ρ hρ hLE H locs ls hP hD hI hV hT hS hl
  subst hz
  obtain ⟨r, hr1, hr2, hr3, hr4⟩ := hf
  obtain ⟨i, hi, hi2⟩ := ws_at (ρ := ρ) (cy := cy) (σ := (M, Rf)) hm
  rw [ent_obj hk] at hi2
  exact va_get (fs := flds ρ (M, Rf) q t) hx hb hts (clsOK t r hr1).2 hown hK hP i hi2 hr1 f hr2 (hts _ hr4) (fun _ h => h) (fl_ref (by omega) hr hq) hd (k ρ hρ hLE H locs ls hP hD hI hV (RFd.r (hI.2.2.2.1 q hm _ q2 hq) hT.tl) hS hl)
theorem dw_sgetR (F : FD X G ρ0 cc own ret d U) {q bq : Id4} {idx : Nat} (hd : decode cc pc = .ok (.getfield idx, 3)) (hf : FL own idx 10 0) (hm : (q ∈ L ∧ kd q = .inl 10) ∨ sK q) (hq : Rf q 0 = some bq) (k : DW X G ρ0 L0 L (pc + 3) lv (aR bq :: st) (M, Rf) u Q) : DW X G ρ0 L0 L pc lv (aR q :: st) (M, Rf) u Q := by
  rcases hm with ⟨hm, hk⟩ | ⟨i, hi, rfl⟩
  · exact dw_getR F hd hf hk hm rfl rfl hq k
  · obtain ⟨p, l, e, R, s, m, args, below, meth, c⟩ := X
    obtain ⟨g, cy, A, nL, sx⟩ := G
    obtain ⟨hx, hb, hml, hown, hts, hK, hA, hlk, hret, hR, htr, hZ, hY⟩ := F
    intro ρ hρ hLE H locs ls hP hD hI hV hT hS hl
    obtain ⟨z1, z2, z3, z4, z5, z6, z7, z8⟩ := hZ
    obtain ⟨r, hr1, hr2, hr3, hr4⟩ := hf
    cases hr1
    have e1 : bq = (21, (i : Int), 0, 0) := Option.some.inj (hq.symm.trans (hI.2.2.2.2.1 i hi).1)
    subst e1
    have e2 : ρ (20, (i : Int), 0, 0) = ρ0 (20, (i : Int), 0, 0) := hρ _ (Or.inr (Nat.le_of_ble_eq_true rfl))
    have e3 : ρ (21, (i : Int), 0, 0) = ρ0 (21, (i : Int), 0, 0) := hρ _ (Or.inr (Nat.le_of_ble_eq_true rfl))
    refine vk_getf (q := ρ (20, (i : Int), 0, 0)) (v := .ref (ρ (21, (i : Int), 0, 0))) hx hb (by rw [e2, e3]; exact (z6.1 i hi).2.2.1) hS hown (hts _ hr4) (fun _ h => h) hd (k ρ hρ hLE H locs ls hP hD hI hV (RFd.r (Or.inr (Nat.le_of_ble_eq_true rfl)) hT.tl) hS hl)
theorem dw_sgetI (F : FD X G ρ0 cc own ret d U) {q : Id4} {idx : Nat} (hd : decode cc pc = .ok (.getfield idx, 3)) (hf : FL own idx 10 1) (hm : (q ∈ L ∧ kd q = .inl 10) ∨ sK q) (hq : M q 1 = 0) (k : DW X G ρ0 L0 L (pc + 3) lv (aI 0 :: st) (M, Rf) u Q) : DW X G ρ0 L0 L pc lv (aR q :: st) (M, Rf) u Q := by
  rcases hm with ⟨hm, hk⟩ | ⟨i, hi, rfl⟩
  · exact dw_getI (fz := 1) F hd hf hk hm rfl rfl (by rw [hq]; exact k)
  · obtain ⟨p, l, e, R, s, m, args, below, meth, c⟩ := X
    obtain ⟨g, cy, A, nL, sx⟩ := G
    obtain ⟨hx, hb, hml, hown, hts, hK, hA, hlk, hret, hR, htr, hZ, hY⟩ := F
    intro ρ hρ hLE H locs ls hP hD hI hV hT hS hl
    obtain ⟨z1, z2, z3, z4, z5, z6, z7, z8⟩ := hZ
    obtain ⟨r, hr1, hr2, hr3, hr4⟩ := hf
    cases hr1
    have e2 : ρ (20, (i : Int), 0, 0) = ρ0 (20, (i : Int), 0, 0) := hρ _ (Or.inr (Nat.le_of_ble_eq_true rfl))
    refine vk_getf (q := ρ (20, (i : Int), 0, 0)) (v := .int 0) hx hb (by rw [e2]; exact (z6.1 i hi).2.1) hS hown (hts _ hr4) (fun _ h => h) hd (k ρ hρ hLE H locs ls hP hD hI hV hT.tl.i hS hl)
theorem dw_putI (F : FD X G ρ0 cc own ret d U) {q : Id4} {t f idx : Nat} {fz : Int}  {x : Int} (hd : decode cc pc = .ok (.putfield idx, 3)) (hf : FL own idx t f) (hg : ∀ r : vw_C, vwCl[t]? = some r → (((r.2.1 f).2.2.2 = true ∧ (r.2.1 f).1 = own ∧ INd X) ∨ (r.2.1 f).2.2.2 = false) ∧ ∃ ty, parseFieldDescriptor (r.2.1 f).2.2.1 = some ty ∧ narrow ty (.int (Int32.ofInt x)) = .int (Int32.ofInt x) ∧ fits ty (.int (Int32.ofInt x)) = true) (hk : kd q = .inl t) (hm : q ∈ L) (hr : rfF t f = false) (hz : (f : Int) = fz) (k : DW X G ρ0 L0 L (pc + 3) lv (st) (updM M q fz x, Rf) u Q) : DW X G ρ0 L0 L pc lv (aI x :: aR q :: st) (M, Rf) u Q := by
  obtain ⟨p, l, e, R, s, m, args, below, meth, c⟩ := X
  obtain ⟨g, cy, A, nL, sx⟩ := G
  obtain ⟨hx, hb, hml, hown, hts, hK, hA, hlk, hret, hR, htr, hZ, hY⟩ := F
  intro ρ hρ hLE H locs ls hP hD hI hV hT hS hl
  subst hz
  obtain ⟨r, hr1, hr2, hr3, hr4⟩ := hf
  obtain ⟨i, hi, hi2⟩ := ws_at (ρ := ρ) (cy := cy) (σ := (M, Rf)) hm
  rw [ent_obj hk] at hi2
  obtain ⟨ty0, hty, hnm⟩ := (clsOK t r hr1).1
  obtain ⟨hg0, ty, hg1, hg2, hg3⟩ := hg r hr1
  rcases hg0 with ⟨hgf, hgo, hgi⟩ | hgf
  · refine va_putF (fs := flds ρ (M, Rf) q t) hx hb hts (clsOK t r hr1).2 ty0 hty hnm hown hK hP (wsD hD _) hS i hi2 hr1 f hr2 (hts _ hr4) (fun _ h => h) hgf hgi hgo hg1 hg2 hg3 (by rw [fl_len]; omega) hd (fun H1 locs1 hP1 hD1 hS1 => ?_)
    have e9 := ws_set (ρ := ρ) (cy := cy) (σ := (M, Rf)) (σ' := (updM M q (f : Int) x, Rf)) hI.2.1.1 hi (ent_fld (σ := (M, Rf)) hk hr) (fun q' h => ent_ne (σ := (M, Rf)) h)
    exact k ρ hρ hLE H1 locs1 ls (e9 ▸ hP1) hD (hI.putM hm) hV hT.tl.tl hS1 hl
  · refine va_put (fs := flds ρ (M, Rf) q t) hx hb hts (clsOK t r hr1).2 ty0 hty hnm hown hK hP (wsD hD _) hS i hi2 hr1 f hr2 (hts _ hr4) (fun _ h => h) hgf hg1 hg2 hg3 (by rw [fl_len]; omega) hd (fun H1 locs1 hP1 hD1 hS1 => ?_)
    have e9 := ws_set (ρ := ρ) (cy := cy) (σ := (M, Rf)) (σ' := (updM M q (f : Int) x, Rf)) hI.2.1.1 hi (ent_fld (σ := (M, Rf)) hk hr) (fun q' h => ent_ne (σ := (M, Rf)) h)
    exact k ρ hρ hLE H1 locs1 ls (e9 ▸ hP1) hD (hI.putM hm) hV hT.tl.tl hS1 hl
theorem dw_putR (F : FD X G ρ0 cc own ret d U) {q : Id4} {t f idx : Nat} {fz : Int}  {q2 : Id4} (hd : decode cc pc = .ok (.putfield idx, 3)) (hf : FL own idx t f) (hg : ∀ r : vw_C, vwCl[t]? = some r → (((r.2.1 f).2.2.2 = true ∧ (r.2.1 f).1 = own ∧ INd X) ∨ (r.2.1 f).2.2.2 = false) ∧ ∃ ty, parseFieldDescriptor (r.2.1 f).2.2.1 = some ty ∧ ∀ a : Nat, narrow ty (.ref a) = .ref a ∧ fits ty (.ref a) = true) (hk : kd q = .inl t) (hm : q ∈ L) (hr : rfF t f = true) (hz : (f : Int) = fz) (k : DW X G ρ0 L0 L (pc + 3) lv (st) (M, updR Rf q fz (some q2)) u Q) : DW X G ρ0 L0 L pc lv (aR q2 :: aR q :: st) (M, Rf) u Q := by
  obtain ⟨p, l, e, R, s, m, args, below, meth, c⟩ := X
  obtain ⟨g, cy, A, nL, sx⟩ := G
  obtain ⟨hx, hb, hml, hown, hts, hK, hA, hlk, hret, hR, htr, hZ, hY⟩ := F
  intro ρ hρ hLE H locs ls hP hD hI hV hT hS hl
  subst hz
  obtain ⟨r, hr1, hr2, hr3, hr4⟩ := hf
  obtain ⟨i, hi, hi2⟩ := ws_at (ρ := ρ) (cy := cy) (σ := (M, Rf)) hm
  rw [ent_obj hk] at hi2
  obtain ⟨ty0, hty, hnm⟩ := (clsOK t r hr1).1
  obtain ⟨hg0, ty, hg1, hg2⟩ := hg r hr1
  rcases hg0 with ⟨hgf, hgo, hgi⟩ | hgf
  · refine va_putF (fs := flds ρ (M, Rf) q t) hx hb hts (clsOK t r hr1).2 ty0 hty hnm hown hK hP (wsD hD _) hS i hi2 hr1 f hr2 (hts _ hr4) (fun _ h => h) hgf hgi hgo hg1 (hg2 (ρ q2)).1 (hg2 (ρ q2)).2 (by rw [fl_len]; omega) hd (fun H1 locs1 hP1 hD1 hS1 => ?_)
    have e9 := ws_set (ρ := ρ) (cy := cy) (σ := (M, Rf)) (σ' := (M, updR Rf q (f : Int) (some q2))) hI.2.1.1 hi (ent_fldR (σ := (M, Rf)) hk hr) (fun q' h => ent_neR (σ := (M, Rf)) h)
    exact k ρ hρ hLE H1 locs1 ls (e9 ▸ hP1) hD (hI.putR hm hT.hd) hV hT.tl.tl hS1 hl
  · refine va_put (fs := flds ρ (M, Rf) q t) hx hb hts (clsOK t r hr1).2 ty0 hty hnm hown hK hP (wsD hD _) hS i hi2 hr1 f hr2 (hts _ hr4) (fun _ h => h) hgf hg1 (hg2 (ρ q2)).1 (hg2 (ρ q2)).2 (by rw [fl_len]; omega) hd (fun H1 locs1 hP1 hD1 hS1 => ?_)
    have e9 := ws_set (ρ := ρ) (cy := cy) (σ := (M, Rf)) (σ' := (M, updR Rf q (f : Int) (some q2))) hI.2.1.1 hi (ent_fldR (σ := (M, Rf)) hk hr) (fun q' h => ent_neR (σ := (M, Rf)) h)
    exact k ρ hρ hLE H1 locs1 ls (e9 ▸ hP1) hD (hI.putR hm hT.hd) hV hT.tl.tl hS1 hl
theorem dw_iald (F : FD X G ρ0 cc own ret d U) {q : Id4} {n : Nat} {i : Int}  (hd : decode cc pc = .ok (.iaload, 1)) (hk : kd q = .inr (0, n)) (hm : q ∈ L) (hn : n ≤ 3072) (hi : 0 ≤ i ∧ i < n) (k : DW X G ρ0 L0 L (pc + 1) lv (aI (M q i) :: st) (M, Rf) u Q) : DW X G ρ0 L0 L pc lv (aI i :: aR q :: st) (M, Rf) u Q := by
  obtain ⟨p, l, e, R, s, m, args, below, meth, c⟩ := X
  obtain ⟨g, cy, A, nL, sx⟩ := G
  obtain ⟨hx, hb, hml, hown, hts, hK, hA, hlk, hret, hR, htr, hZ, hY⟩ := F
  intro ρ hρ hLE H locs ls hP hD hI hV hT hS hl
  obtain ⟨j, hj, hj2⟩ := ws_at (ρ := ρ) (cy := cy) (σ := (M, Rf)) hm
  rw [ent_arr hk] at hj2
  have ht : (tysOf cy)[0]? = some (cy 0, eT 0) := rfl
  refine va_iald (f := fun z => Int32.ofInt (M q (z : Int))) hx hb hK hP j 0 hj2 ht (oi_in hi.1 hi.2 hn) hd ?_
  rw [oi_nat hi.1 (by omega), show ((i.toNat : Nat) : Int) = i by omega]
  exact k ρ hρ hLE H locs ls hP hD hI hV hT.tl.tl.i hS hl
theorem dw_bald (F : FD X G ρ0 cc own ret d U) {q : Id4} {n : Nat} {i : Int}  (hd : decode cc pc = .ok (.baload, 1)) (hk : kd q = .inr (1, n)) (hm : q ∈ L) (hn : n ≤ 3072) (hi : 0 ≤ i ∧ i < n) (k : DW X G ρ0 L0 L (pc + 1) lv (aI (M q i) :: st) (M, Rf) u Q) : DW X G ρ0 L0 L pc lv (aI i :: aR q :: st) (M, Rf) u Q := by
  obtain ⟨p, l, e, R, s, m, args, below, meth, c⟩ := X
  obtain ⟨g, cy, A, nL, sx⟩ := G
  obtain ⟨hx, hb, hml, hown, hts, hK, hA, hlk, hret, hR, htr, hZ, hY⟩ := F
  intro ρ hρ hLE H locs ls hP hD hI hV hT hS hl
  obtain ⟨j, hj, hj2⟩ := ws_at (ρ := ρ) (cy := cy) (σ := (M, Rf)) hm
  rw [ent_arr hk] at hj2
  have ht : (tysOf cy)[1]? = some (cy 1, eT 1) := rfl
  refine va_bald (f := fun z => Int32.ofInt (M q (z : Int))) hx hb hK hP j 1 hj2 ht (oi_in hi.1 hi.2 hn) hd ?_
  rw [oi_nat hi.1 (by omega), show ((i.toNat : Nat) : Int) = i by omega]
  exact k ρ hρ hLE H locs ls hP hD hI hV hT.tl.tl.i hS hl
theorem dw_iast (F : FD X G ρ0 cc own ret d U) {q : Id4} {n : Nat} {i : Int}  {x : Int} (hd : decode cc pc = .ok (.iastore, 1)) (hk : kd q = .inr (0, n)) (hm : q ∈ L) (hn : n ≤ 3072) (hi : 0 ≤ i ∧ i < n) (k : DW X G ρ0 L0 L (pc + 1) lv (st) (updM M q i x, Rf) u Q) : DW X G ρ0 L0 L pc lv (aI x :: aI i :: aR q :: st) (M, Rf) u Q := by
  obtain ⟨p, l, e, R, s, m, args, below, meth, c⟩ := X
  obtain ⟨g, cy, A, nL, sx⟩ := G
  obtain ⟨hx, hb, hml, hown, hts, hK, hA, hlk, hret, hR, htr, hZ, hY⟩ := F
  intro ρ hρ hLE H locs ls hP hD hI hV hT hS hl
  obtain ⟨j, hj, hj2⟩ := ws_at (ρ := ρ) (cy := cy) (σ := (M, Rf)) hm
  rw [ent_arr hk] at hj2
  have ht : (tysOf cy)[0]? = some (cy 0, eT 0) := rfl
  refine va_iast (f := fun z => Int32.ofInt (M q (z : Int))) hx hb hK hP (wsD hD _) hS j 0 hj2 ht (oi_in hi.1 hi.2 hn) hd (fun H1 locs1 hP1 hD1 hS1 => ?_)
  have e9 := ws_set (ρ := ρ) (cy := cy) (σ := (M, Rf)) (σ' := (updM M q i x, Rf)) hI.2.1.1 hj (ent_upd (σ := (M, Rf)) hk (by decide) hi.1 (by omega)) (fun q' h => ent_ne (σ := (M, Rf)) h)
  exact k ρ hρ hLE H1 locs1 ls (e9 ▸ hP1) hD (hI.putM hm) hV hT.tl.tl.tl hS1 hl
theorem dw_bast (F : FD X G ρ0 cc own ret d U) {q : Id4} {n : Nat} {i : Int}  {x : Int} (hd : decode cc pc = .ok (.bastore, 1)) (hk : kd q = .inr (1, n)) (hm : q ∈ L) (hn : n ≤ 3072) (hi : 0 ≤ i ∧ i < n) (hb9 : vp_nar .byte (Int32.ofInt x) = Int32.ofInt x) (k : DW X G ρ0 L0 L (pc + 1) lv (st) (updM M q i x, Rf) u Q) : DW X G ρ0 L0 L pc lv (aI x :: aI i :: aR q :: st) (M, Rf) u Q := by
  obtain ⟨p, l, e, R, s, m, args, below, meth, c⟩ := X
  obtain ⟨g, cy, A, nL, sx⟩ := G
  obtain ⟨hx, hb, hml, hown, hts, hK, hA, hlk, hret, hR, htr, hZ, hY⟩ := F
  intro ρ hρ hLE H locs ls hP hD hI hV hT hS hl
  obtain ⟨j, hj, hj2⟩ := ws_at (ρ := ρ) (cy := cy) (σ := (M, Rf)) hm
  rw [ent_arr hk] at hj2
  have ht : (tysOf cy)[1]? = some (cy 1, eT 1) := rfl
  refine va_bast (f := fun z => Int32.ofInt (M q (z : Int))) hx hb hK hP (wsD hD _) hS j 1 hj2 ht (oi_in hi.1 hi.2 hn) hd (fun H1 locs1 hP1 hD1 hS1 => ?_)
  rw [hb9] at hP1
  have e9 := ws_set (ρ := ρ) (cy := cy) (σ := (M, Rf)) (σ' := (updM M q i x, Rf)) hI.2.1.1 hj (ent_upd (σ := (M, Rf)) hk (by decide) hi.1 (by omega)) (fun q' h => ent_ne (σ := (M, Rf)) h)
  exact k ρ hρ hLE H1 locs1 ls (e9 ▸ hP1) hD (hI.putM hm) hV hT.tl.tl.tl hS1 hl
theorem dw_alen (F : FD X G ρ0 cc own ret d U) {q : Id4} {e9 n : Nat} {v : Int} (hd : decode cc pc = .ok (.arraylength, 1)) (hk : kd q = .inr (e9, n)) (he : e9 ≤ 1) (hm : q ∈ L) (hv : (n : Int) = v) (k : DW X G ρ0 L0 L (pc + 1) lv (aI v :: st) (M, Rf) u Q) : DW X G ρ0 L0 L pc lv (aR q :: st) (M, Rf) u Q := by
  obtain ⟨p, l, e, R, s, m, args, below, meth, c⟩ := X
  obtain ⟨g, cy, A, nL, sx⟩ := G
  obtain ⟨hx, hb, hml, hown, hts, hK, hA, hlk, hret, hR, htr, hZ, hY⟩ := F
  intro ρ hρ hLE H locs ls hP hD hI hV hT hS hl
  subst hv
  obtain ⟨j, hj, hj2⟩ := ws_at (ρ := ρ) (cy := cy) (σ := (M, Rf)) hm
  rw [ent_arr hk (by omega)] at hj2
  have ht : (tysOf cy)[e9]? = some (cy e9, eT e9) := by unfold tysOf; rw [List.getElem?_map, List.getElem?_range (by omega)]; rfl
  exact va_alen (v := Int32.ofInt (n : Int)) hx hb hK hP j e9 hj2 ht rfl hd (k ρ hρ hLE H locs ls hP hD hI hV hT.tl.i hS hl)
theorem dw_balen (F : FD X G ρ0 cc own ret d U) {q : Id4} {n : Nat} {v : Int} (hd : decode cc pc = .ok (.arraylength, 1)) (hk : kd q = .inr (1, n)) (hm : q ∈ L ∨ bK q) (hv : (n : Int) = v) (k : DW X G ρ0 L0 L (pc + 1) lv (aI v :: st) (M, Rf) u Q) : DW X G ρ0 L0 L pc lv (aR q :: st) (M, Rf) u Q := by
  rcases hm with hm | ⟨i, hi, rfl⟩
  · exact dw_alen F hd hk (by decide) hm hv k
  · subst hv
    obtain ⟨p, l, e, R, s, m, args, below, meth, c⟩ := X
    obtain ⟨g, cy, A, nL, sx⟩ := G
    obtain ⟨hx, hb, hml, hown, hts, hK, hA, hlk, hret, hR, htr, hZ, hY⟩ := F
    intro ρ hρ hLE H locs ls hP hD hI hV hT hS hl
    obtain ⟨z1, z2, z3, z4, z5, z6, z7, z8⟩ := hZ
    have e3 : ρ (21, (i : Int), 0, 0) = ρ0 (21, (i : Int), 0, 0) := hρ _ (Or.inr (Nat.le_of_ble_eq_true rfl))
    have hn0 : kd (21, (i : Int), 0, 0) = .inr (1, wLen.getD i 0) := rfl
    rw [hn0] at hk
    cases hk
    refine va_tlen (t := ρ (21, (i : Int), 0, 0)) hx hb (by rw [e3]; exact (z6.1 i hi).2.2.2) hS rfl hd (k ρ hρ hLE H locs ls hP hD hI hV hT.tl.i hS hl)
theorem dw_sbald (F : FD X G ρ0 cc own ret d U) {q : Id4} {n : Nat} {i9 : Int} (hd : decode cc pc = .ok (.baload, 1)) (hk : kd q = .inr (1, n)) (hm : q ∈ L ∨ bK q) (hn : n ≤ 3072) (hi9 : 0 ≤ i9 ∧ i9 < n) (k : DW X G ρ0 L0 L (pc + 1) lv (aI (M q i9) :: st) (M, Rf) u Q) : DW X G ρ0 L0 L pc lv (aI i9 :: aR q :: st) (M, Rf) u Q := by
  rcases hm with hm | ⟨i, hi, rfl⟩
  · exact dw_bald F hd hk hm hn hi9 k
  ·
    obtain ⟨p, l, e, R, s, m, args, below, meth, c⟩ := X
    obtain ⟨g, cy, A, nL, sx⟩ := G
    obtain ⟨hx, hb, hml, hown, hts, hK, hA, hlk, hret, hR, htr, hZ, hY⟩ := F
    intro ρ hρ hLE H locs ls hP hD hI hV hT hS hl
    obtain ⟨z1, z2, z3, z4, z5, z6, z7, z8⟩ := hZ
    have e3 : ρ (21, (i : Int), 0, 0) = ρ0 (21, (i : Int), 0, 0) := hρ _ (Or.inr (Nat.le_of_ble_eq_true rfl))
    have hn0 : kd (21, (i : Int), 0, 0) = .inr (1, wLen.getD i 0) := rfl
    rw [hn0] at hk
    cases hk
    have hx9 := (hI.2.2.2.2.1 i hi).2.2 i9.toNat (by omega)
    rw [show ((i9.toNat : Nat) : Int) = i9 by omega] at hx9
    refine va_tb (t := ρ (21, (i : Int), 0, 0)) hx hb (by rw [e3]; exact (z6.1 i hi).2.2.2) hS (oi_in hi9.1 hi9.2 hn) (v := .int (Int32.ofInt (M (21, (i : Int), 0, 0) i9))) ?_ hd (k ρ hρ hLE H locs ls hP hD hI hV hT.tl.tl.i hS hl)
    rw [oi_nat hi9.1 (by omega), show (M (21, (i : Int), 0, 0) i9) = _ from hx9, Int32.ofInt_toInt]
theorem dw_dald0 (F : FD X G ρ0 cc own ret d U) {i : Int} (hd : decode cc pc = .ok (.baload, 1)) (hi : 0 ≤ i ∧ i < 100) (k : DW X G ρ0 L0 L (pc + 1) lv (aI (48 + i % 10) :: st) (M, Rf) u Q) : DW X G ρ0 L0 L pc lv (aI i :: aR (23, 0, 0, 0) :: st) (M, Rf) u Q := by
  obtain ⟨p, l, e, R, s, m, args, below, meth, c⟩ := X
  obtain ⟨g, cy, A, nL, sx⟩ := G
  obtain ⟨hx, hb, hml, hown, hts, hK, hA, hlk, hret, hR, htr, hZ, hY⟩ := F
  intro ρ hρ hLE H locs ls hP hD hI hV hT hS hl
  have e3 : ρ (23, 0, 0, 0) = ρ0 (23, 0, 0, 0) := hρ _ (Or.inr (Nat.le_of_ble_eq_true rfl))
  refine va_tb (t := ρ (23, 0, 0, 0)) hx hb (by rw [e3]; exact hY.2.2.1.2) hS (oi_in (n := 100) hi.1 hi.2 (by decide)) (v := .int (Int32.ofInt (48 + i % 10))) ?_ hd (k ρ hρ hLE H locs ls hP hD hI hV hT.tl.tl.i hS hl)
  rw [oi_nat hi.1 (by omega), show ((i.toNat : Nat) : Int) = i by omega]
theorem dw_dald1 (F : FD X G ρ0 cc own ret d U) {i : Int} (hd : decode cc pc = .ok (.baload, 1)) (hi : 0 ≤ i ∧ i < 100) (k : DW X G ρ0 L0 L (pc + 1) lv (aI (48 + i / 10) :: st) (M, Rf) u Q) : DW X G ρ0 L0 L pc lv (aI i :: aR (23, 1, 0, 0) :: st) (M, Rf) u Q := by
  obtain ⟨p, l, e, R, s, m, args, below, meth, c⟩ := X
  obtain ⟨g, cy, A, nL, sx⟩ := G
  obtain ⟨hx, hb, hml, hown, hts, hK, hA, hlk, hret, hR, htr, hZ, hY⟩ := F
  intro ρ hρ hLE H locs ls hP hD hI hV hT hS hl
  have e3 : ρ (23, 1, 0, 0) = ρ0 (23, 1, 0, 0) := hρ _ (Or.inr (Nat.le_of_ble_eq_true rfl))
  refine va_tb (t := ρ (23, 1, 0, 0)) hx hb (by rw [e3]; exact hY.2.2.2.1.2) hS (oi_in (n := 100) hi.1 hi.2 (by decide)) (v := .int (Int32.ofInt (48 + i / 10))) ?_ hd (k ρ hρ hLE H locs ls hP hD hI hV hT.tl.tl.i hS hl)
  rw [oi_nat hi.1 (by omega), show ((i.toNat : Nat) : Int) = i by omega]
theorem dw_digO (F : FD X G ρ0 cc own ret d U) {idx : Nat} (hd : decode cc pc = .ok (.getstatic idx, 3)) (hl9 : Cond.fieldLink own idx "java/lang/Integer" "DigitOnes" "[B" ∈ Gw) (k : DW X G ρ0 L0 L (pc + 3) lv (aR (23, 0, 0, 0) :: st) (M, Rf) u Q) : DW X G ρ0 L0 L pc lv (st) (M, Rf) u Q := by
  obtain ⟨p, l, e, R, s, m, args, below, meth, c⟩ := X
  obtain ⟨g, cy, A, nL, sx⟩ := G
  obtain ⟨hx, hb, hml, hown, hts, hK, hA, hlk, hret, hR, htr, hZ, hY⟩ := F
  intro ρ hρ hLE H locs ls hP hD hI hV hT hS hl
  have e3 : ρ (23, 0, 0, 0) = ρ0 (23, 0, 0, 0) := hρ _ (Or.inr (Nat.le_of_ble_eq_true rfl))
  exact va_gets (v := .ref (ρ (23, 0, 0, 0))) hx hb (by rw [e3]; exact hY.2.2.1.1) hS hown (hts _ hl9) (fun _ h => h) hd (k ρ hρ hLE H locs ls hP hD hI hV (RFd.r (Or.inr (Nat.le_of_ble_eq_true rfl)) hT) hS hl)
theorem dw_digT (F : FD X G ρ0 cc own ret d U) {idx : Nat} (hd : decode cc pc = .ok (.getstatic idx, 3)) (hl9 : Cond.fieldLink own idx "java/lang/Integer" "DigitTens" "[B" ∈ Gw) (k : DW X G ρ0 L0 L (pc + 3) lv (aR (23, 1, 0, 0) :: st) (M, Rf) u Q) : DW X G ρ0 L0 L pc lv (st) (M, Rf) u Q := by
  obtain ⟨p, l, e, R, s, m, args, below, meth, c⟩ := X
  obtain ⟨g, cy, A, nL, sx⟩ := G
  obtain ⟨hx, hb, hml, hown, hts, hK, hA, hlk, hret, hR, htr, hZ, hY⟩ := F
  intro ρ hρ hLE H locs ls hP hD hI hV hT hS hl
  have e3 : ρ (23, 1, 0, 0) = ρ0 (23, 1, 0, 0) := hρ _ (Or.inr (Nat.le_of_ble_eq_true rfl))
  exact va_gets (v := .ref (ρ (23, 1, 0, 0))) hx hb (by rw [e3]; exact hY.2.2.2.1.1) hS hown (hts _ hl9) (fun _ h => h) hd (k ρ hρ hLE H locs ls hP hD hI hV (RFd.r (Or.inr (Nat.le_of_ble_eq_true rfl)) hT) hS hl)
theorem dw_comp (F : FD X G ρ0 cc own ret d U) {idx : Nat} (hd : decode cc pc = .ok (.getstatic idx, 3)) (hl9 : Cond.fieldLink own idx "java/lang/String" "COMPACT_STRINGS" "Z" ∈ Gw) (k : DW X G ρ0 L0 L (pc + 3) lv (aI 1 :: st) (M, Rf) u Q) : DW X G ρ0 L0 L pc lv (st) (M, Rf) u Q := by
  obtain ⟨p, l, e, R, s, m, args, below, meth, c⟩ := X
  obtain ⟨g, cy, A, nL, sx⟩ := G
  obtain ⟨hx, hb, hml, hown, hts, hK, hA, hlk, hret, hR, htr, hZ, hY⟩ := F
  intro ρ hρ hLE H locs ls hP hD hI hV hT hS hl
  obtain ⟨z1, z2, z3, z4, z5, z6, z7, z8⟩ := hZ
  exact va_gets hx hb z7.1 hS hown (hts _ hl9) (fun _ h => h) hd (k ρ hρ hLE H locs ls hP hD hI hV hT.i hS hl)
theorem dw_fmt (F : FD X G ρ0 cc own ret d U) {idx : Nat} (hd : decode cc pc = .ok (.getstatic idx, 3)) (hl9 : Cond.fieldLink own idx "jdk/internal/util/Preconditions" "SIOOBE_FORMATTER" "Ljava/util/function/BiFunction;" ∈ Gw) (k : ∀ o : Option Id4, (∀ x, o = some x → 20 ≤ x.1) → DW X G ρ0 L0 L (pc + 3) lv (.inr (.inl o) :: st) (M, Rf) u Q) : DW X G ρ0 L0 L pc lv (st) (M, Rf) u Q := by
  obtain ⟨p, l, e, R, s, m, args, below, meth, c⟩ := X
  obtain ⟨g, cy, A, nL, sx⟩ := G
  obtain ⟨hx, hb, hml, hown, hts, hK, hA, hlk, hret, hR, htr, hZ, hY⟩ := F
  intro ρ hρ hLE H locs ls hP hD hI hV hT hS hl
  obtain ⟨z1, z2, z3, z4, z5, z6, z7, z8⟩ := hZ
  have e3 : ρ (22, 0, 0, 0) = ρ0 (22, 0, 0, 0) := hρ _ (Or.inr (Nat.le_of_ble_eq_true rfl))
  rcases z7.2 with z9 | z9
  · exact va_gets hx hb z9 hS hown (hts _ hl9) (fun _ h => h) hd (k none (fun _ h => by cases h) ρ hρ hLE H locs ls hP hD hI hV (RFd.v (fun v hv x e => by rw [List.mem_singleton.mp hv] at e; cases e) hT) hS hl)
  · exact va_gets (v := .ref (ρ (22, 0, 0, 0))) hx hb (by rw [e3]; exact z9) hS hown (hts _ hl9) (fun _ h => h) hd (k (some (22, 0, 0, 0)) (fun _ h => by cases h; decide) ρ hρ hLE H locs ls hP hD hI hV (RFd.r (Or.inr (Nat.le_of_ble_eq_true rfl)) hT) hS hl)
theorem dw_ldc (F : FD X G ρ0 cc own ret d U) {idx : Nat} {x : Int} (hd : decode cc pc = .ok (.ldc idx, 2)) (hc : Cond.constant own idx (Int32.ofInt x) ∈ Gw) (k : DW X G ρ0 L0 L (pc + 2) lv (aI x :: st) (M, Rf) u Q) : DW X G ρ0 L0 L pc lv (st) (M, Rf) u Q := by
  obtain ⟨p, l, e, R, s, m, args, below, meth, c⟩ := X
  obtain ⟨g, cy, A, nL, sx⟩ := G
  obtain ⟨hx, hb, hml, hown, hts, hK, hA, hlk, hret, hR, htr, hZ, hY⟩ := F
  intro ρ hρ hLE H locs ls hP hD hI hV hT hS hl
  exact lv_ldc hx hb hown (hts _ hc) hd (k ρ hρ hLE H locs ls hP hD hI hV hT.i hS hl)
theorem dw_ldcS (F : FD X G ρ0 cc own ret d U) {idx : Nat} {tx : String} {i : Nat} (hd : decode cc pc = .ok (.ldc idx, 2)) (hw : (own, idx, tx, (i : Int)) ∈ WL) (k : DW X G ρ0 L0 L (pc + 2) lv (aR (20, (i : Int), 0, 0) :: st) (M, Rf) u Q) : DW X G ρ0 L0 L pc lv (st) (M, Rf) u Q := by
  obtain ⟨p, l, e, R, s, m, args, below, meth, c⟩ := X
  obtain ⟨g, cy, A, nL, sx⟩ := G
  obtain ⟨hx, hb, hml, hown, hts, hK, hA, hlk, hret, hR, htr, hZ, hY⟩ := F
  intro ρ hρ hLE H locs ls hP hD hI hV hT hS hl
  obtain ⟨z1, z2, z3, z4, z5, z6, z7, z8⟩ := hZ
  have e3 : ρ (20, (i : Int), 0, 0) = ρ0 (20, (i : Int), 0, 0) := hρ _ (Or.inr (Nat.le_of_ble_eq_true rfl))
  exact va_ldcS (q := ρ (20, (i : Int), 0, 0)) hx hb hown (by rw [e3]; exact z5 _ hw) hd (k ρ hρ hLE H locs ls hP hD hI hV (RFd.r (Or.inr (Nat.le_of_ble_eq_true rfl)) hT) hS hl)
theorem dw_slen (F : FD X G ρ0 cc own ret d U) {v : Int} (hd : decode cc pc = .ok (.arraylength, 1)) (hv : (G.2.2.2.2.1 : Int) = v) (k : DW X G ρ0 L0 L (pc + 1) lv (aI v :: st) (M, Rf) u Q) : DW X G ρ0 L0 L pc lv (aR (30, 0, 0, 0) :: st) (M, Rf) u Q := by
  obtain ⟨p, l, e, R, s, m, args, below, meth, c⟩ := X
  obtain ⟨g, cy, A, nL, sx⟩ := G
  obtain ⟨hx, hb, hml, hown, hts, hK, hA, hlk, hret, hR, htr, hZ, hY⟩ := F
  intro ρ hρ hLE H locs ls hP hD hI hV hT hS hl
  have e3 : ρ (30, 0, 0, 0) = ρ0 (30, 0, 0, 0) := hρ _ (Or.inr (Nat.le_of_ble_eq_true rfl))
  subst hv
  obtain ⟨y1, y2, y3, y4⟩ := hY.2.2.2.2
  exact va_slen (b := ρ (30, 0, 0, 0)) hx hb (by rw [e3]; exact y1) (by rw [e3]; exact y2) (by rw [e3]; exact y3) hS hd (k ρ hρ hLE H locs ls hP hD hI hV hT.tl.i hS hl)
theorem dw_sld (F : FD X G ρ0 cc own ret d U) {i : Int} (hd : decode cc pc = .ok (.iaload, 1)) (hi : 0 ≤ i ∧ i < (G.2.2.2.2.1 : Int)) (k : DW X G ρ0 L0 L (pc + 1) lv (aI (M (30, 0, 0, 0) i) :: st) (M, Rf) u Q) : DW X G ρ0 L0 L pc lv (aI i :: aR (30, 0, 0, 0) :: st) (M, Rf) u Q := by
  obtain ⟨p, l, e, R, s, m, args, below, meth, c⟩ := X
  obtain ⟨g, cy, A, nL, sx⟩ := G
  obtain ⟨hx, hb, hml, hown, hts, hK, hA, hlk, hret, hR, htr, hZ, hY⟩ := F
  intro ρ hρ hLE H locs ls hP hD hI hV hT hS hl
  have e3 : ρ (30, 0, 0, 0) = ρ0 (30, 0, 0, 0) := hρ _ (Or.inr (Nat.le_of_ble_eq_true rfl))
  obtain ⟨y1, y2, y3, y4⟩ := hY.2.2.2.2
  have hi2 : i < (sx.1 : Int) := hi.2
  have hx9 := hI.2.2.2.2.2.2 i.toNat (by omega)
  rw [show ((i.toNat : Nat) : Int) = i by omega] at hx9
  refine va_sld (b := ρ (30, 0, 0, 0)) hx hb (by rw [e3]; exact y1) (by rw [e3]; exact y2) (by rw [e3]; exact y3) hS (oi_in hi.1 hi2 (by omega)) hd ?_
  rw [oi_nat hi.1 (by omega), ← Int32.ofInt_toInt (sx.2 i.toNat), ← hx9]
  exact k ρ hρ hLE H locs ls hP hD hI hV hT.tl.tl.i hS hl
theorem dw_newI (F : FD X G ρ0 cc own ret d U) {N w : Nat} {x : Int} (hd : decode cc pc = .ok (.newarray .int, 2)) (har : Cond.arrayClass .int ∈ Gw) (hN : x = (N : Int)) (hs : N ≤ 3072) (hw : N ≤ 64 * w ∧ 1 ≤ w) (hu : u + w ≤ U) (k : DW X G ρ0 L0 (L ++ [(12, (L.length : Int), N, 0)]) (pc + 2) lv (aR (12, (L.length : Int), N, 0) :: st) (zM M (12, (L.length : Int), N, 0), zR Rf (12, (L.length : Int), N, 0)) (u + w) Q) : DW X G ρ0 L0 L pc lv (aI x :: st) (M, Rf) u Q := by
  obtain ⟨p, l, e, R, s, m, args, below, meth, c⟩ := X
  obtain ⟨g, cy, A, nL, sx⟩ := G
  obtain ⟨hx, hb, hml, hown, hts, hK, hA, hlk, hret, hR, htr, hZ, hY⟩ := F
  intro ρ hρ hLE H locs ls hP hD hI hV hT hS hl
  subst hR
  subst hN
  have hNn : (Int32.ofInt (N : Int)).toNatClampNeg = N := by rw [oi_nat (by omega) (by omega)]; omega
  refine va_newa (atype := .int) (ty := .int) (a0 := (N, .inl (fun _ => 0))) (N' := N) hx hb (hts _ har) rfl hK hP (wsD hD _) hS hA (fun cA => rfl) ?_ hNn (by simp only [componentBytes]; omega) (by show u + 1 ≤ U; omega) (by show 64 * u + N ≤ 64 * U; omega) hd (fun a cA H1 hK1 hP1 hD1 hS1 => ?_)
  · intro z
    have z2 := (oi_lt (i := (N : Int)) (j := 0) (by unfold inR; omega) inR0).mp z
    omega
  have hcA := cy_eq (e := 0) (by decide) hK hK1
  subst hcA
  have hE9 : ∀ ρ' : Id4 → Nat, ent ρ' cy (setA M (12, (L.length : Int), N, 0) (fun _ => 0), zR Rf (12, (L.length : Int), N, 0)) (12, (L.length : Int), N, 0) = .inl (cy 0, (N, .inl (fun _ => 0))) := fun ρ' => by
    rw [ent_arr (e := 0) (n := N) rfl (by decide)]
    show Sum.inl (cy 0, (N, Sum.inl (fun j : Nat => Int32.ofInt (setA M (12, (L.length : Int), N, 0) (fun _ => 0) (12, (L.length : Int), N, 0) (j : Int))))) = _
    rw [setA_same]
    rfl
  obtain ⟨ρ', g1, g2, g4, g5⟩ := growd (B := fun _ => 0) (q := (12, (L.length : Int), N, 0)) (hI.fresh (by decide)) (Nat.le_of_ble_eq_true rfl) hI.2.2.2.1 hP1 hD1 hE9
  have kk := k ρ' (hρ.tr hLE g1) hLE.app H1 locs ls g4 g5 (hI.new (by decide)) (hV.le LE.rf.app) (RFd.r (Or.inl (List.mem_append_right _ List.mem_cons_self)) (hT.tl.le LE.rf.app)) hS1 (lh_agd g1 hV hl)
  refine W.widen (k := u + w) (n := 64 * (u + w)) (by omega) (by omega) ?_
  rw [← g2, ← st_agd g1 hT.tl]
  exact kk
theorem dw_newB (F : FD X G ρ0 cc own ret d U) {N w : Nat} {x : Int} (hd : decode cc pc = .ok (.newarray .byte, 2)) (har : Cond.arrayClass .byte ∈ Gw) (hN : x = (N : Int)) (hs : N ≤ 3072) (hw : N ≤ 64 * w ∧ 1 ≤ w) (hu : u + w ≤ U) (k : DW X G ρ0 L0 (L ++ [(13, (L.length : Int), N, 0)]) (pc + 2) lv (aR (13, (L.length : Int), N, 0) :: st) (zM M (13, (L.length : Int), N, 0), zR Rf (13, (L.length : Int), N, 0)) (u + w) Q) : DW X G ρ0 L0 L pc lv (aI x :: st) (M, Rf) u Q := by
  obtain ⟨p, l, e, R, s, m, args, below, meth, c⟩ := X
  obtain ⟨g, cy, A, nL, sx⟩ := G
  obtain ⟨hx, hb, hml, hown, hts, hK, hA, hlk, hret, hR, htr, hZ, hY⟩ := F
  intro ρ hρ hLE H locs ls hP hD hI hV hT hS hl
  subst hR
  subst hN
  have hNn : (Int32.ofInt (N : Int)).toNatClampNeg = N := by rw [oi_nat (by omega) (by omega)]; omega
  refine va_newa (atype := .byte) (ty := .byte) (a0 := (N, .inl (fun _ => 0))) (N' := N) hx hb (hts _ har) rfl hK hP (wsD hD _) hS hA (fun cA => rfl) ?_ hNn (by simp only [componentBytes]; omega) (by show u + 1 ≤ U; omega) (by show 64 * u + N ≤ 64 * U; omega) hd (fun a cA H1 hK1 hP1 hD1 hS1 => ?_)
  · intro z
    have z2 := (oi_lt (i := (N : Int)) (j := 0) (by unfold inR; omega) inR0).mp z
    omega
  have hcA := cy_eq (e := 1) (by decide) hK hK1
  subst hcA
  have hE9 : ∀ ρ' : Id4 → Nat, ent ρ' cy (setA M (13, (L.length : Int), N, 0) (fun _ => 0), zR Rf (13, (L.length : Int), N, 0)) (13, (L.length : Int), N, 0) = .inl (cy 1, (N, .inl (fun _ => 0))) := fun ρ' => by
    rw [ent_arr (e := 1) (n := N) rfl (by decide)]
    show Sum.inl (cy 1, (N, Sum.inl (fun j : Nat => Int32.ofInt (setA M (13, (L.length : Int), N, 0) (fun _ => 0) (13, (L.length : Int), N, 0) (j : Int))))) = _
    rw [setA_same]
    rfl
  obtain ⟨ρ', g1, g2, g4, g5⟩ := growd (B := fun _ => 0) (q := (13, (L.length : Int), N, 0)) (hI.fresh (by decide)) (Nat.le_of_ble_eq_true rfl) hI.2.2.2.1 hP1 hD1 hE9
  have kk := k ρ' (hρ.tr hLE g1) hLE.app H1 locs ls g4 g5 (hI.new (by decide)) (hV.le LE.rf.app) (RFd.r (Or.inl (List.mem_append_right _ List.mem_cons_self)) (hT.tl.le LE.rf.app)) hS1 (lh_agd g1 hV hl)
  refine W.widen (k := u + w) (n := 64 * (u + w)) (by omega) (by omega) ?_
  rw [← g2, ← st_agd g1 hT.tl]
  exact kk
theorem dw_new (F : FD X G ρ0 cc own ret d U) {t idx w : Nat} {C : String} (ht9 : 9 ≤ t ∧ t < 20) (hd : decode cc pc = .ok (.new idx, 3)) (hc : ∃ r : vw_C, vwCl[t]? = some r ∧ r.1 = C ∧ r.2.2 = nfl t ∧ Cond.instantiable r.1 r.2.2 ∈ Gw) (hcl : Cond.classLink own idx C ∈ Gw) (hini : Cond.initialized C ∈ Gw) (hdf : DF t) (hk : ∀ i, kd (t, i, 0, 0) = .inl t) (hw : nfl t ≤ 64 * w ∧ 1 ≤ w) (hu : u + w ≤ U) (k : DW X G ρ0 L0 (L ++ [(t, (L.length : Int), 0, 0)]) (pc + 3) lv (aR (t, (L.length : Int), 0, 0) :: st) (zM M (t, (L.length : Int), 0, 0), zR Rf (t, (L.length : Int), 0, 0)) (u + w) Q) : DW X G ρ0 L0 L pc lv (st) (M, Rf) u Q := by
  obtain ⟨p, l, e, R, s, m, args, below, meth, c⟩ := X
  obtain ⟨g, cy, A, nL, sx⟩ := G
  obtain ⟨hx, hb, hml, hown, hts, hK, hA, hlk, hret, hR, htr, hZ, hY⟩ := F
  intro ρ hρ hLE H locs ls hP hD hI hV hT hS hl
  subst hR
  obtain ⟨r, hr1, rfl, hr3, hr4⟩ := hc
  obtain ⟨ty, hty, hdv⟩ := hdf r hr1
  have hfs : ∀ ρ' : Id4 → Nat, flds ρ' (zM M (t, (L.length : Int), 0, 0), zR Rf (t, (L.length : Int), 0, 0)) (t, (L.length : Int), 0, 0) t = (List.range (nfl t)).map (fun k : Nat => if rfF t k then Value.null else Value.int 0) := by
    intro ρ'
    unfold flds
    refine List.map_congr_left (fun k _ => ?_)
    show (if rfF t k = true then va_rf ((setR Rf (t, (L.length : Int), 0, 0) (fun _ => none) (t, (L.length : Int), 0, 0) (k : Int)).map ρ') else Value.int (Int32.ofInt (setA M (t, (L.length : Int), 0, 0) (fun _ => 0) (t, (L.length : Int), 0, 0) (k : Int)))) = _
    rw [setR_same, setA_same]
    rfl
  refine va_new (fs := (List.range (nfl t)).map (fun k : Nat => if rfF t k then Value.null else Value.int 0)) (C := r.1) (T := r.2.1) (N := r.2.2) hx hb hts (clsOK t r hr1).2 ty hty hown (hts _ hcl) (hts _ hr4) (hts _ hini) hK hP (wsD hD _) hS hA hr1 (fun j hj => ?_) (by show u + 1 ≤ U; omega) (by show 64 * u + r.2.2 ≤ 64 * U; omega) hd (fun a H1 hP1 hD1 hS1 => ?_)
  · rw [hdv j hj]
    unfold vp_V
    rw [List.getD_eq_getElem?_getD, List.getElem?_map, List.getElem?_range (by omega)]
    by_cases hf : rfF t j = true
    · simp [hf]
    · simp [hf]
  have hE9 : ∀ ρ' : Id4 → Nat, ent ρ' cy (setA M (t, (L.length : Int), 0, 0) (fun _ => 0), zR Rf (t, (L.length : Int), 0, 0)) (t, (L.length : Int), 0, 0) = .inr (t, (List.range (nfl t)).map (fun k : Nat => if rfF t k then Value.null else Value.int 0)) := fun ρ' => by
    rw [ent_obj (hk _), hfs]
  obtain ⟨ρ', g1, g2, g4, g5⟩ := growd (B := fun _ => 0) (q := (t, (L.length : Int), 0, 0)) (hI.fresh ht9.1) ht9.2 hI.2.2.2.1 hP1 hD1 hE9
  have kk := k ρ' (hρ.tr hLE g1) hLE.app H1 locs ls g4 g5 (hI.new ht9) (hV.le LE.rf.app) (RFd.r (Or.inl (List.mem_append_right _ List.mem_cons_self)) (hT.le LE.rf.app)) hS1 (lh_agd g1 hV hl)
  refine W.widen (k := u + w) (n := 64 * (u + w)) (by omega) (by omega) ?_
  rw [← g2, ← st_agd g1 hT]
  exact kk
theorem dw_clone (F : FD X G ρ0 cc own ret d U) {q : Id4} {n w idx : Nat} (hd : decode cc pc = .ok (.invokevirtual idx, 3)) (hl1 : Cond.methodLink own idx ⟨"[B", "clone", "()Ljava/lang/Object;"⟩ ∈ Gw) (hl2 : Cond.sameMethod "[B" "java/lang/Object" "clone" "()Ljava/lang/Object;" ∈ Gw) (hl3 : Cond.native ⟨"java/lang/Object", "clone", "()Ljava/lang/Object;"⟩ ∈ Gw) (hl4 : Cond.instanceMethod ⟨"java/lang/Object", "clone", "()Ljava/lang/Object;"⟩ ∈ Gw) (hl5 : Cond.selects "[B" ⟨"[B", "clone", "()Ljava/lang/Object;"⟩ ⟨"java/lang/Object", "clone", "()Ljava/lang/Object;"⟩ ∈ Gw) (hk : kd q = .inr (1, n)) (hm : q ∈ L) (hby : ∀ j : Int, 0 ≤ j → j < n → -128 ≤ M q j ∧ M q j ≤ 127) (hst : stW st ≤ 8) (hd1 : 1 ≤ d) (hw : n ≤ 64 * w ∧ 1 ≤ w) (hu : u + w ≤ U) (k : DW X G ρ0 L0 (L ++ [(13, (L.length : Int), n, 0)]) (pc + 3) lv (aR (13, (L.length : Int), n, 0) :: st) (setA M (13, (L.length : Int), n, 0) (M q), zR Rf (13, (L.length : Int), n, 0)) (u + w) Q) : DW X G ρ0 L0 L pc lv (aR q :: st) (M, Rf) u Q := by
  obtain ⟨p, l, e, R, s, m, args, below, meth, c⟩ := X
  obtain ⟨g, cy, A, nL, sx⟩ := G
  obtain ⟨hx, hb, hml, hown, hts, hK, hA, hlk, hret, hR, htr, hZ, hY⟩ := F
  intro ρ hρ hLE H locs ls hP hD hI hV hT hS hl
  subst hR
  obtain ⟨j, hj, hj2⟩ := ws_at (ρ := ρ) (cy := cy) (σ := (M, Rf)) hm
  rw [ent_arr hk (by decide)] at hj2
  have ht : (tysOf cy)[1]? = some (cy 1, eT 1) := rfl
  have hnm : s.vm.findClass "[B" = some (cy 1) := (hK.2 1 _ ht).2
  refine va_clone (ad := "[B") hx hb (hml.trans hl.1.symm) hown (hts _ hl1) (hts _ hl2) (hts _ hl3) (hts _ hl4) (hts _ hl5) hY.2.1.1 hK hP (wsD hD _) hS hA j 1 hj2 ht hnm (fun i v hv => ?_) (by show 1 ≤ d; exact hd1) (by have := st_cat (ρ := ρ) st; show _ ≤ 80 * d; omega) (by show u + 1 ≤ U; omega) (by show 64 * u + n ≤ 64 * U; omega) hd (fun a H1 hK1 hP1 hD1 hS1 => ?_)
  · have hv2 : (arrV (cy 1) n (fun z => Value.int (Int32.ofInt (M q (z : Int))))).slots[i]? = some v := hv
    have hlt : i < n := by
      have h9 := (Array.getElem?_eq_some_iff.mp hv2).1
      rw [arrV_size] at h9
      exact h9
    rw [arrV_read _ _ hlt] at hv2
    cases hv2
    have hb9 := hby (i : Int) (by omega) (by omega)
    exact fit_byte hb9
  have hE9 : ∀ ρ' : Id4 → Nat, ent ρ' cy (setA M (13, (L.length : Int), n, 0) (M q), zR Rf (13, (L.length : Int), n, 0)) (13, (L.length : Int), n, 0) = .inl (cy 1, (n, .inl (fun j : Nat => Int32.ofInt (M q (j : Int))))) := fun ρ' => by
    rw [ent_arr (e := 1) (n := n) rfl (by decide)]
    show Sum.inl (cy 1, (n, Sum.inl (fun j : Nat => Int32.ofInt (setA M (13, (L.length : Int), n, 0) (M q) (13, (L.length : Int), n, 0) (j : Int))))) = _
    rw [setA_same]
  obtain ⟨ρ', g1, g2, g4, g5⟩ := growd (B := M q) (q := (13, (L.length : Int), n, 0)) (hI.fresh (by decide)) (Nat.le_of_ble_eq_true rfl) hI.2.2.2.1 hP1 hD1 hE9
  have kk := k ρ' (hρ.tr hLE g1) hLE.app H1 locs ls g4 g5 (hI.new (by decide)) (hV.le LE.rf.app) (RFd.r (Or.inl (List.mem_append_right _ List.mem_cons_self)) (hT.tl.le LE.rf.app)) hS1 (lh_agd g1 hV hl)
  refine W.widen (k := u + w) (n := 64 * (u + w)) (by omega) (by omega) ?_
  rw [← g2, ← st_agd g1 hT.tl]
  exact kk
theorem dw_castB (F : FD X G ρ0 cc own ret d U) {q : Id4} {n idx : Nat} (hd : decode cc pc = .ok (.checkcast idx, 3)) (hl1 : Cond.classLink own idx "[B" ∈ Gw) (hk : kd q = .inr (1, n)) (hm : q ∈ L) (k : DW X G ρ0 L0 L (pc + 3) lv (aR q :: st) (M, Rf) u Q) : DW X G ρ0 L0 L pc lv (aR q :: st) (M, Rf) u Q := by
  obtain ⟨p, l, e, R, s, m, args, below, meth, c⟩ := X
  obtain ⟨g, cy, A, nL, sx⟩ := G
  obtain ⟨hx, hb, hml, hown, hts, hK, hA, hlk, hret, hR, htr, hZ, hY⟩ := F
  intro ρ hρ hLE H locs ls hP hD hI hV hT hS hl
  obtain ⟨j, hj, hj2⟩ := ws_at (ρ := ρ) (cy := cy) (σ := (M, Rf)) hm
  rw [ent_arr hk (by decide)] at hj2
  have ht : (tysOf cy)[1]? = some (cy 1, eT 1) := rfl
  have hnm : s.vm.findClass "[B" = some (cy 1) := (hK.2 1 _ ht).2
  exact va_castA hx hb hown (hts _ hl1) hP j hj2 hnm hd (k ρ hρ hLE H locs ls hP hD hI hV hT hS hl)
theorem dw_copyB (F : FD X G ρ0 cc own ret d U) {idx n0 n1 : Nat} {q0 q1 : Id4} {sp dp n : Int} (hd : decode cc pc = .ok (.invokestatic idx, 3)) (hl9 : MLC own idx) (hk0 : kd q0 = .inr (1, n0)) (hk1 : kd q1 = .inr (1, n1)) (hm0 : q0 ∈ L ∨ bK q0) (hm1 : q1 ∈ L) (h0 : 0 ≤ sp ∧ sp + n ≤ n0) (h1 : 0 ≤ dp ∧ dp + n ≤ n1) (h2 : 0 ≤ n) (hs0 : n0 ≤ 3072) (hs1 : n1 ≤ 3072) (hby : ∀ j : Int, 0 ≤ j → j < n0 → -128 ≤ M q0 j ∧ M q0 j ≤ 127) (hst : stW st ≤ 8) (hdd : 1 ≤ d) (k : DW X G ρ0 L0 L (pc + 3) lv (st) (cpyM M q0 sp q1 dp n, Rf) u Q) : DW X G ρ0 L0 L pc lv (aI n :: aI dp :: aR q1 :: aI sp :: aR q0 :: st) (M, Rf) u Q := by
  obtain ⟨p, l, e, R, s, m, args, below, meth, c⟩ := X
  obtain ⟨g, cy, A, nL, sx⟩ := G
  obtain ⟨hx, hb, hml, hown, hts, hK, hA, hlk, hret, hR, htr, hZ, hY⟩ := F
  intro ρ hρ hLE H locs ls hP hD hI hV hT hS hl
  subst hR
  obtain ⟨i1, hi1, hi12⟩ := ws_at (ρ := ρ) (cy := cy) (σ := (M, Rf)) hm1
  rw [ent_arr hk1 (by decide)] at hi12
  obtain ⟨l1, l2, l3, l4⟩ := hl9
  have ht : (tysOf cy)[1]? = some (cy 1, eT 1) := rfl
  have e1 := oi_nat (i := sp) h0.1 (by omega)
  have e2 := oi_nat (i := dp) h1.1 (by omega)
  have e3 := oi_nat (i := n) h2 (by omega)
  have hT5 : RFd L st := hT.tl.tl.tl.tl.tl
  have nn : ∀ x : Int, 0 ≤ x → x ≤ 3072 → ¬ Int32.ofInt x < 0 := fun x hx0 hx1 z => by
    have := (oi_lt (i := x) (j := 0) (by unfold inR; omega) inR0).mp z
    omega
  have hfit : ∀ i : Nat, i < (Int32.ofInt n).toNatClampNeg → fits .byte (.int (Int32.ofInt (M q0 (((Int32.ofInt sp).toNatClampNeg + i : Nat) : Int)))) = true := fun i hi => by
    rw [e3] at hi
    rw [e1]
    exact fit_byte (hby _ (by omega) (by omega))
  have hfin : ∀ (H1 : Heap) (locs1 : List Loc), va_P g vwCl ((wsOf ρ cy L (M, Rf)).set i1 (ρ q1, .inl (cy 1, n1, .inl (va_cpy (fun z : Nat => Int32.ofInt (M q0 (z : Int))) (fun z : Nat => Int32.ofInt (M q1 (z : Int))) (Int32.ofInt sp).toNatClampNeg (Int32.ofInt dp).toNatClampNeg (Int32.ofInt n).toNatClampNeg)))) H1 → va_S A s.heap H1 locs1 → W p l e (rmOf d U) s m args below meth c H1 locs1 u (64 * u) Q (F0 m (pc + 3) ls (st.map (cv ρ))) := fun H1 locs1 hP1 hS1 => by
    have e9 := ws_set (ρ := ρ) (cy := cy) (σ := (M, Rf)) (σ' := (cpyM M q0 sp q1 dp n, Rf)) hI.2.1.1 hi1 (ent_cpy (Rf := Rf) hk1 (by decide) h0.1 h1.1 h2 (by omega) (by omega)) (fun q' h => ent_cpyN h)
    refine k ρ hρ hLE H1 locs1 ls (e9 ▸ hP1) hD (hI.setM (fun x hx => funext fun k' => if_neg (fun z => ?_))) hV hT5 hS1 hl
    have := hI.1 q1 hm1
    rw [z.1] at hx
    omega
  rcases hm0 with hm0 | ⟨i, hi, rfl⟩
  · obtain ⟨i0, hi0, hi02⟩ := ws_at (ρ := ρ) (cy := cy) (σ := (M, Rf)) hm0
    rw [ent_arr hk0 (by decide)] at hi02
    refine va_copyi (f := fun z => Int32.ofInt (M q0 (z : Int))) (g := fun z => Int32.ofInt (M q1 (z : Int))) (ty := .byte) hx hb (hml.trans hl.1.symm) hown (hts _ l1) (hts _ l2) (hts _ l3) (hts _ l4) hK hP (wsD hD _) hS i0 i1 1 1 hi02 hi12 ht ht rfl (nn _ h0.1 (by omega)) (nn _ h1.1 (by omega)) (nn _ h2 (by omega)) (by rw [e1, e3]; omega) (by rw [e2, e3]; omega) hfit (by show 1 ≤ d; exact hdd) (by have := st_cat (ρ := ρ) st; show _ ≤ 80 * d; have hw9 : nativeFrameWords "java/lang/System" "arraycopy" 5 + 11 ≤ 60 := Nat.le_of_ble_eq_true rfl; omega) hd (fun H1 locs1 hP1 hD1 hS1 => hfin H1 locs1 hP1 hS1)
  · obtain ⟨z1, z2, z3, z4, z5, z6, z7, z8⟩ := hZ
    have e4 : ρ (21, (i : Int), 0, 0) = ρ0 (21, (i : Int), 0, 0) := hρ _ (Or.inr (Nat.le_of_ble_eq_true rfl))
    have hn0 : kd (21, (i : Int), 0, 0) = .inr (1, wLen.getD i 0) := rfl
    rw [hn0] at hk0
    cases hk0
    have hTx : va_T .byte (ρ (21, (i : Int), 0, 0)) (wLen.getD i 0) (fun j => .int (Int32.ofInt (M (21, (i : Int), 0, 0) (j : Int)))) A s s.heap := by
      rw [e4]
      obtain ⟨cell, t1, t2, t3, t4, t5, t6, t7⟩ := (z6.1 i hi).2.2.2
      refine ⟨cell, t1, t2, t3, t4, t5, fun j hj => ?_, t7⟩
      rw [t6 j hj]
      show some (Value.int ((wByt.getD i []).getD j 0)) = some (Value.int (Int32.ofInt (M (21, (i : Int), 0, 0) (j : Int))))
      rw [show M (21, (i : Int), 0, 0) (j : Int) = _ from (hI.2.2.2.2.1 i hi).2.2 j hj, Int32.ofInt_toInt]
    refine vk_copyt (f := fun z => Int32.ofInt (M (21, (i : Int), 0, 0) (z : Int))) (g := fun z => Int32.ofInt (M q1 (z : Int))) hx hb (hml.trans hl.1.symm) hown (hts _ l1) (hts _ l2) (hts _ l3) (hts _ l4) hK hP (wsD hD _) hS hTx i1 1 hi12 ht (nn _ h0.1 (by omega)) (nn _ h1.1 (by omega)) (nn _ h2 (by omega)) (by rw [e1, e3]; omega) (by rw [e2, e3]; omega) hfit (by show 1 ≤ d; exact hdd) (by have := st_cat (ρ := ρ) st; show _ ≤ 80 * d; have hw9 : nativeFrameWords "java/lang/System" "arraycopy" 5 + 11 ≤ 60 := Nat.le_of_ble_eq_true rfl; omega) hd (fun H1 locs1 hP1 hD1 hS1 => hfin H1 locs1 hP1 hS1)
theorem dw_eq {σ σ' : Hp} (e : σ = σ') (k : DW X G ρ0 L0 L pc lv st σ' u Q) : DW X G ρ0 L0 L pc lv st σ u Q := e ▸ k
theorem dw_widen (F : FD X G ρ0 cc own ret d U) {u' : Nat} {σ : Hp} (hu : u ≤ u') (k : DW X G ρ0 L0 L pc lv st σ u' Q) : DW X G ρ0 L0 L pc lv st σ u Q := by
  obtain ⟨p, l, e, R, s, m, args, below, meth, c⟩ := X
  obtain ⟨g, cy, A, nL, sx⟩ := G
  obtain ⟨hx, hb, hml, hown, hts, hK, hA, hlk, hret, hR, htr, hZ, hY⟩ := F
  intro ρ hρ hLE H locs ls hP hD hI hV hT hS hl
  exact W.widen hu (Nat.mul_le_mul_left 64 hu) (k ρ hρ hLE H locs ls hP hD hI hV hT hS hl)
theorem dw_DI (F : FD X G ρ0 cc own ret d U) {σ : Hp} (k : DI G.2.2.2.2 L σ → RFd L lv → RFd L st → LE L0 L → DW X G ρ0 L0 L pc lv st σ u Q) : DW X G ρ0 L0 L pc lv st σ u Q := by
  obtain ⟨p, l, e, R, s, m, args, below, meth, c⟩ := X
  obtain ⟨g, cy, A, nL, sx⟩ := G
  obtain ⟨hx, hb, hml, hown, hts, hK, hA, hlk, hret, hR, htr, hZ, hY⟩ := F
  intro ρ hρ hLE H locs ls hP hD hI hV hT hS hl
  exact k hI hV hT hLE ρ hρ hLE H locs ls hP hD hI hV hT hS hl
end DROWS
section DRETS
variable {X : Cx} {G : Gd} {ρ0 : Id4 → Nat} {L0 L : List Id4} {cc : ByteArray} {own : String} {ret : Option FieldType} {d U pc u : Nat} {lv st : List AV} {σ : Hp}
theorem dw_iret {Q : Int → List Id4 → Hp → Prop} {v : Int} {ty : FieldType} (F : FD X G ρ0 cc own (some ty) d U) (hd : decode cc pc = .ok (.ireturn, 1)) (hn : narrow ty (.int (Int32.ofInt v)) = .int (Int32.ofInt v)) (hu : u ≤ U) (hq : Q v L σ) : DW X G ρ0 L0 L pc lv [aI v] σ u (EId X G ρ0 L0 U Q) := by
  obtain ⟨p, l, e, R, s, m, args, below, meth, c⟩ := X
  obtain ⟨g, cy, A, nL, sx⟩ := G
  obtain ⟨hx, hb, hml, hown, hts, hK, hA, hlk, hret, hR, htr, hZ, hY⟩ := F
  intro ρ hρ hLE H locs ls hP hD hI hV hT hS hl
  refine W.widen hu (Nat.mul_le_mul_left 64 hu) ?_
  exact W.zret hx hb hret hn (fun t ht hW => ⟨⟨Int32.ofInt v, (v, (L, σ, ρ)), rfl, ⟨rfl, hq, hρ, hLE, hI⟩, by rw [ht]; exact hP, hD, va_K.moved hW.alike hK⟩, hS.F ht⟩) hS.2.2 hd hlk
theorem dw_vret {Q : List Id4 → Hp → Prop} (F : FD X G ρ0 cc own none d U) (hd : decode cc pc = .ok (.return_, 1)) (hu : u ≤ U) (hq : Q L σ) : DW X G ρ0 L0 L pc lv [] σ u (EVd X G ρ0 L0 U Q) := by
  obtain ⟨p, l, e, R, s, m, args, below, meth, c⟩ := X
  obtain ⟨g, cy, A, nL, sx⟩ := G
  obtain ⟨hx, hb, hml, hown, hts, hK, hA, hlk, hret, hR, htr, hZ, hY⟩ := F
  intro ρ hρ hLE H locs ls hP hD hI hV hT hS hl
  refine W.widen hu (Nat.mul_le_mul_left 64 hu) ?_
  exact W.vret hx hb hret (fun t ht hW => ⟨⟨(L, σ, ρ), rfl, ⟨hq, hρ, hLE, hI⟩, by rw [ht]; exact hP, hD, va_K.moved hW.alike hK⟩, hS.F ht⟩) hS.2.2 hd hlk
theorem dw_aret {Q : Id4 → List Id4 → Hp → Prop} {q : Id4} {ty : FieldType} (F : FD X G ρ0 cc own (some ty) d U) (hd : decode cc pc = .ok (.areturn, 1)) (hn : (∃ n, ty = .object n) ∨ ∃ t, ty = .array t) (hu : u ≤ U) (hq : Q q L σ) : DW X G ρ0 L0 L pc lv [aR q] σ u (ERd X G ρ0 L0 U Q) := by
  obtain ⟨p, l, e, R, s, m, args, below, meth, c⟩ := X
  obtain ⟨g, cy, A, nL, sx⟩ := G
  obtain ⟨hx, hb, hml, hown, hts, hK, hA, hlk, hret, hR, htr, hZ, hY⟩ := F
  intro ρ hρ hLE H locs ls hP hD hI hV hT hS hl
  refine W.widen hu (Nat.mul_le_mul_left 64 hu) ?_
  exact W.aret hx hb hret hn (Or.inr ⟨ρ q, rfl⟩) (fun t ht hW => ⟨⟨(q, (L, σ, ρ)), ρ q, rfl, ⟨hq, ⟨hρ, hLE, hI⟩, hT.hd⟩, rfl, by rw [ht]; exact hP, hD, va_K.moved hW.alike hK⟩, hS.F ht⟩) hS.2.2 hd hlk
end DRETS
section DCALLS
variable {X : Cx} {G : Gd} {ρ0 : Id4 → Nat} {L0 L : List Id4} {cc bc : ByteArray} {own : String} {ret ry : Option FieldType} {d U d2 U2 pc u mL idx t : Nat} {lv st as : List AV} {σ : Hp} {x y : MethodName} {q : Id4} {Q : State → Prop}
theorem dw_callVI {Q2 : Int → List Id4 → Hp → Prop} (F : FD X G ρ0 cc own ret d U) (hd : decode cc pc = .ok (.invokevirtual idx, 3)) (hl9 : MLV own idx y bc mL ry t as.length) (hk : kd q = .inl t) (hm : q ∈ L ∨ (t = 10 ∧ sK q)) (hc : CdI G.2.2.2.2 d2 U2 y bc mL ry (aR q :: as) L σ Q2) (hst : stW st ≤ 8) (hdd : d2 + 1 ≤ d) (hu : u + U2 ≤ U) (k : ∀ (v : Int) (L' : List Id4) (σ' : Hp), Q2 v L' σ' → LE L L' → DW X G ρ0 L0 L' (pc + 3) lv (aI v :: st) σ' (u + U2) Q) : DW X G ρ0 L0 L pc lv (as.reverse ++ aR q :: st) σ u Q := by
  obtain ⟨p, l, e, R, s, m, args, below, meth, c⟩ := X
  obtain ⟨g, cy, A, nL, sx⟩ := G
  obtain ⟨hx, hb, hml, hown, hts, hK, hA, hlk, hret, hR, htr, hZ, hY⟩ := F
  intro ρ hρ hLE H locs ls hP hD hI hV hT hS hl
  subst hR
  have hRa : RFd L (aR q :: as) := hT.mm (fun v hv => ?_)
  have hRs : RFd L st := hT.mm (fun v hv => List.mem_append_right _ (List.mem_cons_of_mem _ hv))
  have hf9 := Aof_A hD hA hS.1
  have hM := hc l g cy ρ H.size htr hRa
  have hsta : ((as.reverse ++ aR q :: st).map (cv ρ)) = (as.map (cv ρ)).reverse ++ .ref (ρ q) :: st.map (cv ρ) := by rw [List.map_append, List.map_reverse]; rfl
  obtain ⟨⟨rr, hr1, hr2⟩, -⟩ := id hl9
  have hrecv : ∃ cell : Cell, H[ρ q]? = some cell ∧ cell.vm.isStatics = false ∧ s.vm.findClass y.cls = some cell.cls := by
    rcases hm with hm | ⟨rfl, i, hi, rfl⟩
    · obtain ⟨i, hi, hi2⟩ := ws_at (ρ := ρ) (cy := cy) (σ := σ) hm
      rw [ent_obj hk] at hi2
      exact hr2 ▸ va_recv hK hP hr1 hi2
    · obtain ⟨z1, z2, z3, z4, z5, z6, z7, z8⟩ := hZ
      cases hr1
      rw [hr2, show ρ (20, (i : Int), 0, 0) = ρ0 (20, (i : Int), 0, 0) from hρ _ (Or.inr (Nat.le_of_ble_eq_true rfl))]
      exact vk_recv z6 hi hS
  · refine va_calli (va_runV (C := y.cls) (As := as.map (cv ρ)) (rest := st.map (cv ρ)) ⟨hx, hb, hml, hown, hts⟩ hM (hl9.cw hts hdd) ⟨WRd_blind, hrecv, fun V hV hW => ⟨rfl, WRd_call hK hD hA hρ hZ hY hI hP hS hV hW⟩⟩ rfl (List.length_map ..) hl.1 hsta (lv_room (Nat.le_trans (st_cat st) hst)) hd ⟨hu, by show 64 * u + 64 * U2 ≤ 64 * U; omega⟩) hS (fun q _ h => hf9 q h) hf9 (fun v9 u9 t9 H1 locs1 ht hvm hw hB hz1 hk1 hS1 => ?_)
    obtain ⟨hw1, hw2, hw3, hw4, hw5⟩ := hw
    obtain ⟨hB1, hB2, hB3⟩ := hB
    subst hw1
    have kk := k u9.1 u9.2.1 u9.2.2.1 hw2 hw4 u9.2.2.2 (hρ.tr hLE hw3) (hLE.tr hw4) H1 locs1 ls (by rw [← ht]; exact hB1) (hB2.weaken (fun _ _ _ h => hf9 _ h)) hw5 (hV.le hw4) (hRs.le hw4).i hS1 (lh_agd hw3 hV hl)
    rw [← st_agd hw3 hRs]
    rw [show 64 * u + 64 * U2 = 64 * (u + U2) by omega]
    exact kk
  · rcases List.mem_cons.mp hv with z | z
    · rw [z]; exact List.mem_append_right _ List.mem_cons_self
    · exact List.mem_append_left _ (List.mem_reverse.mpr z)
theorem dw_callVV {Q2 : List Id4 → Hp → Prop} (F : FD X G ρ0 cc own ret d U) (hd : decode cc pc = .ok (.invokevirtual idx, 3)) (hl9 : MLV own idx y bc mL ry t as.length) (hk : kd q = .inl t) (hm : q ∈ L ∨ (t = 10 ∧ sK q)) (hc : CdV G.2.2.2.2 d2 U2 y bc mL ry (aR q :: as) L σ Q2) (hst : stW st ≤ 8) (hdd : d2 + 1 ≤ d) (hu : u + U2 ≤ U) (k : ∀ (L' : List Id4) (σ' : Hp), Q2 L' σ' → LE L L' → DW X G ρ0 L0 L' (pc + 3) lv (st) σ' (u + U2) Q) : DW X G ρ0 L0 L pc lv (as.reverse ++ aR q :: st) σ u Q := by
  obtain ⟨p, l, e, R, s, m, args, below, meth, c⟩ := X
  obtain ⟨g, cy, A, nL, sx⟩ := G
  obtain ⟨hx, hb, hml, hown, hts, hK, hA, hlk, hret, hR, htr, hZ, hY⟩ := F
  intro ρ hρ hLE H locs ls hP hD hI hV hT hS hl
  subst hR
  have hRa : RFd L (aR q :: as) := hT.mm (fun v hv => ?_)
  have hRs : RFd L st := hT.mm (fun v hv => List.mem_append_right _ (List.mem_cons_of_mem _ hv))
  have hf9 := Aof_A hD hA hS.1
  have hM := hc l g cy ρ H.size htr hRa
  have hsta : ((as.reverse ++ aR q :: st).map (cv ρ)) = (as.map (cv ρ)).reverse ++ .ref (ρ q) :: st.map (cv ρ) := by rw [List.map_append, List.map_reverse]; rfl
  obtain ⟨⟨rr, hr1, hr2⟩, -⟩ := id hl9
  have hrecv : ∃ cell : Cell, H[ρ q]? = some cell ∧ cell.vm.isStatics = false ∧ s.vm.findClass y.cls = some cell.cls := by
    rcases hm with hm | ⟨rfl, i, hi, rfl⟩
    · obtain ⟨i, hi, hi2⟩ := ws_at (ρ := ρ) (cy := cy) (σ := σ) hm
      rw [ent_obj hk] at hi2
      exact hr2 ▸ va_recv hK hP hr1 hi2
    · obtain ⟨z1, z2, z3, z4, z5, z6, z7, z8⟩ := hZ
      cases hr1
      rw [hr2, show ρ (20, (i : Int), 0, 0) = ρ0 (20, (i : Int), 0, 0) from hρ _ (Or.inr (Nat.le_of_ble_eq_true rfl))]
      exact vk_recv z6 hi hS
  · refine va_callv (va_runV (C := y.cls) (As := as.map (cv ρ)) (rest := st.map (cv ρ)) ⟨hx, hb, hml, hown, hts⟩ hM (hl9.cw hts hdd) ⟨WRd_blind, hrecv, fun V hV hW => ⟨rfl, WRd_call hK hD hA hρ hZ hY hI hP hS hV hW⟩⟩ rfl (List.length_map ..) hl.1 hsta (lv_room (Nat.le_trans (st_cat st) hst)) hd ⟨hu, by show 64 * u + 64 * U2 ≤ 64 * U; omega⟩) hS (fun q _ h => hf9 q h) hf9 (fun u9 t9 H1 locs1 ht hvm hw hB hz1 hk1 hS1 => ?_)
    obtain ⟨hw2, hw3, hw4, hw5⟩ := hw
    obtain ⟨hB1, hB2, hB3⟩ := hB
    have kk := k u9.1 u9.2.1 hw2 hw4 u9.2.2 (hρ.tr hLE hw3) (hLE.tr hw4) H1 locs1 ls (by rw [← ht]; exact hB1) (hB2.weaken (fun _ _ _ h => hf9 _ h)) hw5 (hV.le hw4) (hRs.le hw4) hS1 (lh_agd hw3 hV hl)
    rw [← st_agd hw3 hRs]
    rw [show 64 * u + 64 * U2 = 64 * (u + U2) by omega]
    exact kk
  · rcases List.mem_cons.mp hv with z | z
    · rw [z]; exact List.mem_append_right _ List.mem_cons_self
    · exact List.mem_append_left _ (List.mem_reverse.mpr z)
theorem dw_callVR {Q2 : Id4 → List Id4 → Hp → Prop} (F : FD X G ρ0 cc own ret d U) (hd : decode cc pc = .ok (.invokevirtual idx, 3)) (hl9 : MLV own idx y bc mL ry t as.length) (hk : kd q = .inl t) (hm : q ∈ L ∨ (t = 10 ∧ sK q)) (hc : CdR G.2.2.2.2 d2 U2 y bc mL ry (aR q :: as) L σ Q2) (hst : stW st ≤ 8) (hdd : d2 + 1 ≤ d) (hu : u + U2 ≤ U) (k : ∀ (v : Id4) (L' : List Id4) (σ' : Hp), Q2 v L' σ' → LE L L' → inK L' v → DW X G ρ0 L0 L' (pc + 3) lv (aR v :: st) σ' (u + U2) Q) : DW X G ρ0 L0 L pc lv (as.reverse ++ aR q :: st) σ u Q := by
  obtain ⟨p, l, e, R, s, m, args, below, meth, c⟩ := X
  obtain ⟨g, cy, A, nL, sx⟩ := G
  obtain ⟨hx, hb, hml, hown, hts, hK, hA, hlk, hret, hR, htr, hZ, hY⟩ := F
  intro ρ hρ hLE H locs ls hP hD hI hV hT hS hl
  subst hR
  have hRa : RFd L (aR q :: as) := hT.mm (fun v hv => ?_)
  have hRs : RFd L st := hT.mm (fun v hv => List.mem_append_right _ (List.mem_cons_of_mem _ hv))
  have hf9 := Aof_A hD hA hS.1
  have hM := hc l g cy ρ H.size htr hRa
  have hsta : ((as.reverse ++ aR q :: st).map (cv ρ)) = (as.map (cv ρ)).reverse ++ .ref (ρ q) :: st.map (cv ρ) := by rw [List.map_append, List.map_reverse]; rfl
  obtain ⟨⟨rr, hr1, hr2⟩, -⟩ := id hl9
  have hrecv : ∃ cell : Cell, H[ρ q]? = some cell ∧ cell.vm.isStatics = false ∧ s.vm.findClass y.cls = some cell.cls := by
    rcases hm with hm | ⟨rfl, i, hi, rfl⟩
    · obtain ⟨i, hi, hi2⟩ := ws_at (ρ := ρ) (cy := cy) (σ := σ) hm
      rw [ent_obj hk] at hi2
      exact hr2 ▸ va_recv hK hP hr1 hi2
    · obtain ⟨z1, z2, z3, z4, z5, z6, z7, z8⟩ := hZ
      cases hr1
      rw [hr2, show ρ (20, (i : Int), 0, 0) = ρ0 (20, (i : Int), 0, 0) from hρ _ (Or.inr (Nat.le_of_ble_eq_true rfl))]
      exact vk_recv z6 hi hS
  · refine va_callr (va_runV (C := y.cls) (As := as.map (cv ρ)) (rest := st.map (cv ρ)) ⟨hx, hb, hml, hown, hts⟩ hM (hl9.cw hts hdd) ⟨WRd_blind, hrecv, fun V hV hW => ⟨rfl, WRd_call hK hD hA hρ hZ hY hI hP hS hV hW⟩⟩ rfl (List.length_map ..) hl.1 hsta (lv_room (Nat.le_trans (st_cat st) hst)) hd ⟨hu, by show 64 * u + 64 * U2 ≤ 64 * U; omega⟩) hS (fun q _ h => hf9 q h) hf9 (fun u9 a9 t9 H1 locs1 ht hvm hw hB hz1 hk1 hS1 => ?_)
    obtain ⟨hw2, ⟨hw3, hw4, hw5⟩, hw6⟩ := hw
    obtain ⟨hB0, hB1, hB2, hB3⟩ := hB
    subst hB0
    have kk := k u9.1 u9.2.1 u9.2.2.1 hw2 hw4 hw6 u9.2.2.2 (hρ.tr hLE hw3) (hLE.tr hw4) H1 locs1 ls (by rw [← ht]; exact hB1) (hB2.weaken (fun _ _ _ h => hf9 _ h)) hw5 (hV.le hw4) (RFd.r hw6 (hRs.le hw4)) hS1 (lh_agd hw3 hV hl)
    rw [← st_agd hw3 hRs]
    rw [show 64 * u + 64 * U2 = 64 * (u + U2) by omega]
    exact kk
  · rcases List.mem_cons.mp hv with z | z
    · rw [z]; exact List.mem_append_right _ List.mem_cons_self
    · exact List.mem_append_left _ (List.mem_reverse.mpr z)
theorem dw_callUI {Q2 : Int → List Id4 → Hp → Prop} (F : FD X G ρ0 cc own ret d U) (hd : decode cc pc = .ok (.invokevirtual idx, 3)) (hl9 : MLU own idx x y bc mL ry as.length) (hk : kd q = .inl 11) (hm : q ∈ L) (hc : CdI G.2.2.2.2 d2 U2 y bc mL ry (aR q :: as) L σ Q2) (hst : stW st ≤ 8) (hdd : d2 + 1 ≤ d) (hu : u + U2 ≤ U) (k : ∀ (v : Int) (L' : List Id4) (σ' : Hp), Q2 v L' σ' → LE L L' → DW X G ρ0 L0 L' (pc + 3) lv (aI v :: st) σ' (u + U2) Q) : DW X G ρ0 L0 L pc lv (as.reverse ++ aR q :: st) σ u Q := by
  obtain ⟨p, l, e, R, s, m, args, below, meth, c⟩ := X
  obtain ⟨g, cy, A, nL, sx⟩ := G
  obtain ⟨hx, hb, hml, hown, hts, hK, hA, hlk, hret, hR, htr, hZ, hY⟩ := F
  intro ρ hρ hLE H locs ls hP hD hI hV hT hS hl
  subst hR
  have hRa : RFd L (aR q :: as) := hT.mm (fun v hv => ?_)
  have hRs : RFd L st := hT.mm (fun v hv => List.mem_append_right _ (List.mem_cons_of_mem _ hv))
  have hf9 := Aof_A hD hA hS.1
  have hM := hc l g cy ρ H.size htr hRa
  have hsta : ((as.reverse ++ aR q :: st).map (cv ρ)) = (as.map (cv ρ)).reverse ++ .ref (ρ q) :: st.map (cv ρ) := by rw [List.map_append, List.map_reverse]; rfl
  obtain ⟨i, hi, hi2⟩ := ws_at (ρ := ρ) (cy := cy) (σ := σ) hm
  rw [ent_obj hk] at hi2
  have hrecv : ∃ cell : Cell, H[ρ q]? = some cell ∧ cell.vm.isStatics = false ∧ s.vm.findClass RJ4 = some cell.cls := va_recv hK hP (q := (RJ4, TJ4, 4)) rfl hi2
  · refine va_calli (va_runU (As := as.map (cv ρ)) (rest := st.map (cv ρ)) ⟨hx, hb, hml, hown, hts⟩ hM (hl9.cw hts hK hY.2.1.2 hdd) ⟨WRd_blind, hrecv, fun V hV hW => ⟨rfl, WRd_call hK hD hA hρ hZ hY hI hP hS hV hW⟩⟩ rfl (List.length_map ..) hl.1 hsta (lv_room (Nat.le_trans (st_cat st) hst)) hd ⟨hu, by show 64 * u + 64 * U2 ≤ 64 * U; omega⟩) hS (fun q _ h => hf9 q h) hf9 (fun v9 u9 t9 H1 locs1 ht hvm hw hB hz1 hk1 hS1 => ?_)
    obtain ⟨hw1, hw2, hw3, hw4, hw5⟩ := hw
    obtain ⟨hB1, hB2, hB3⟩ := hB
    subst hw1
    have kk := k u9.1 u9.2.1 u9.2.2.1 hw2 hw4 u9.2.2.2 (hρ.tr hLE hw3) (hLE.tr hw4) H1 locs1 ls (by rw [← ht]; exact hB1) (hB2.weaken (fun _ _ _ h => hf9 _ h)) hw5 (hV.le hw4) (hRs.le hw4).i hS1 (lh_agd hw3 hV hl)
    rw [← st_agd hw3 hRs]
    rw [show 64 * u + 64 * U2 = 64 * (u + U2) by omega]
    exact kk
  · rcases List.mem_cons.mp hv with z | z
    · rw [z]; exact List.mem_append_right _ List.mem_cons_self
    · exact List.mem_append_left _ (List.mem_reverse.mpr z)
theorem dw_callUV {Q2 : List Id4 → Hp → Prop} (F : FD X G ρ0 cc own ret d U) (hd : decode cc pc = .ok (.invokevirtual idx, 3)) (hl9 : MLU own idx x y bc mL ry as.length) (hk : kd q = .inl 11) (hm : q ∈ L) (hc : CdV G.2.2.2.2 d2 U2 y bc mL ry (aR q :: as) L σ Q2) (hst : stW st ≤ 8) (hdd : d2 + 1 ≤ d) (hu : u + U2 ≤ U) (k : ∀ (L' : List Id4) (σ' : Hp), Q2 L' σ' → LE L L' → DW X G ρ0 L0 L' (pc + 3) lv (st) σ' (u + U2) Q) : DW X G ρ0 L0 L pc lv (as.reverse ++ aR q :: st) σ u Q := by
  obtain ⟨p, l, e, R, s, m, args, below, meth, c⟩ := X
  obtain ⟨g, cy, A, nL, sx⟩ := G
  obtain ⟨hx, hb, hml, hown, hts, hK, hA, hlk, hret, hR, htr, hZ, hY⟩ := F
  intro ρ hρ hLE H locs ls hP hD hI hV hT hS hl
  subst hR
  have hRa : RFd L (aR q :: as) := hT.mm (fun v hv => ?_)
  have hRs : RFd L st := hT.mm (fun v hv => List.mem_append_right _ (List.mem_cons_of_mem _ hv))
  have hf9 := Aof_A hD hA hS.1
  have hM := hc l g cy ρ H.size htr hRa
  have hsta : ((as.reverse ++ aR q :: st).map (cv ρ)) = (as.map (cv ρ)).reverse ++ .ref (ρ q) :: st.map (cv ρ) := by rw [List.map_append, List.map_reverse]; rfl
  obtain ⟨i, hi, hi2⟩ := ws_at (ρ := ρ) (cy := cy) (σ := σ) hm
  rw [ent_obj hk] at hi2
  have hrecv : ∃ cell : Cell, H[ρ q]? = some cell ∧ cell.vm.isStatics = false ∧ s.vm.findClass RJ4 = some cell.cls := va_recv hK hP (q := (RJ4, TJ4, 4)) rfl hi2
  · refine va_callv (va_runU (As := as.map (cv ρ)) (rest := st.map (cv ρ)) ⟨hx, hb, hml, hown, hts⟩ hM (hl9.cw hts hK hY.2.1.2 hdd) ⟨WRd_blind, hrecv, fun V hV hW => ⟨rfl, WRd_call hK hD hA hρ hZ hY hI hP hS hV hW⟩⟩ rfl (List.length_map ..) hl.1 hsta (lv_room (Nat.le_trans (st_cat st) hst)) hd ⟨hu, by show 64 * u + 64 * U2 ≤ 64 * U; omega⟩) hS (fun q _ h => hf9 q h) hf9 (fun u9 t9 H1 locs1 ht hvm hw hB hz1 hk1 hS1 => ?_)
    obtain ⟨hw2, hw3, hw4, hw5⟩ := hw
    obtain ⟨hB1, hB2, hB3⟩ := hB
    have kk := k u9.1 u9.2.1 hw2 hw4 u9.2.2 (hρ.tr hLE hw3) (hLE.tr hw4) H1 locs1 ls (by rw [← ht]; exact hB1) (hB2.weaken (fun _ _ _ h => hf9 _ h)) hw5 (hV.le hw4) (hRs.le hw4) hS1 (lh_agd hw3 hV hl)
    rw [← st_agd hw3 hRs]
    rw [show 64 * u + 64 * U2 = 64 * (u + U2) by omega]
    exact kk
  · rcases List.mem_cons.mp hv with z | z
    · rw [z]; exact List.mem_append_right _ List.mem_cons_self
    · exact List.mem_append_left _ (List.mem_reverse.mpr z)
theorem dw_callUR {Q2 : Id4 → List Id4 → Hp → Prop} (F : FD X G ρ0 cc own ret d U) (hd : decode cc pc = .ok (.invokevirtual idx, 3)) (hl9 : MLU own idx x y bc mL ry as.length) (hk : kd q = .inl 11) (hm : q ∈ L) (hc : CdR G.2.2.2.2 d2 U2 y bc mL ry (aR q :: as) L σ Q2) (hst : stW st ≤ 8) (hdd : d2 + 1 ≤ d) (hu : u + U2 ≤ U) (k : ∀ (v : Id4) (L' : List Id4) (σ' : Hp), Q2 v L' σ' → LE L L' → inK L' v → DW X G ρ0 L0 L' (pc + 3) lv (aR v :: st) σ' (u + U2) Q) : DW X G ρ0 L0 L pc lv (as.reverse ++ aR q :: st) σ u Q := by
  obtain ⟨p, l, e, R, s, m, args, below, meth, c⟩ := X
  obtain ⟨g, cy, A, nL, sx⟩ := G
  obtain ⟨hx, hb, hml, hown, hts, hK, hA, hlk, hret, hR, htr, hZ, hY⟩ := F
  intro ρ hρ hLE H locs ls hP hD hI hV hT hS hl
  subst hR
  have hRa : RFd L (aR q :: as) := hT.mm (fun v hv => ?_)
  have hRs : RFd L st := hT.mm (fun v hv => List.mem_append_right _ (List.mem_cons_of_mem _ hv))
  have hf9 := Aof_A hD hA hS.1
  have hM := hc l g cy ρ H.size htr hRa
  have hsta : ((as.reverse ++ aR q :: st).map (cv ρ)) = (as.map (cv ρ)).reverse ++ .ref (ρ q) :: st.map (cv ρ) := by rw [List.map_append, List.map_reverse]; rfl
  obtain ⟨i, hi, hi2⟩ := ws_at (ρ := ρ) (cy := cy) (σ := σ) hm
  rw [ent_obj hk] at hi2
  have hrecv : ∃ cell : Cell, H[ρ q]? = some cell ∧ cell.vm.isStatics = false ∧ s.vm.findClass RJ4 = some cell.cls := va_recv hK hP (q := (RJ4, TJ4, 4)) rfl hi2
  · refine va_callr (va_runU (As := as.map (cv ρ)) (rest := st.map (cv ρ)) ⟨hx, hb, hml, hown, hts⟩ hM (hl9.cw hts hK hY.2.1.2 hdd) ⟨WRd_blind, hrecv, fun V hV hW => ⟨rfl, WRd_call hK hD hA hρ hZ hY hI hP hS hV hW⟩⟩ rfl (List.length_map ..) hl.1 hsta (lv_room (Nat.le_trans (st_cat st) hst)) hd ⟨hu, by show 64 * u + 64 * U2 ≤ 64 * U; omega⟩) hS (fun q _ h => hf9 q h) hf9 (fun u9 a9 t9 H1 locs1 ht hvm hw hB hz1 hk1 hS1 => ?_)
    obtain ⟨hw2, ⟨hw3, hw4, hw5⟩, hw6⟩ := hw
    obtain ⟨hB0, hB1, hB2, hB3⟩ := hB
    subst hB0
    have kk := k u9.1 u9.2.1 u9.2.2.1 hw2 hw4 hw6 u9.2.2.2 (hρ.tr hLE hw3) (hLE.tr hw4) H1 locs1 ls (by rw [← ht]; exact hB1) (hB2.weaken (fun _ _ _ h => hf9 _ h)) hw5 (hV.le hw4) (RFd.r hw6 (hRs.le hw4)) hS1 (lh_agd hw3 hV hl)
    rw [← st_agd hw3 hRs]
    rw [show 64 * u + 64 * U2 = 64 * (u + U2) by omega]
    exact kk
  · rcases List.mem_cons.mp hv with z | z
    · rw [z]; exact List.mem_append_right _ List.mem_cons_self
    · exact List.mem_append_left _ (List.mem_reverse.mpr z)
theorem dw_callSUI {Q2 : Int → List Id4 → Hp → Prop} (F : FD X G ρ0 cc own ret d U) (hd : decode cc pc = .ok (.invokespecial idx, 3)) (hl9 : MLSU own idx y bc mL ry as.length) (hk : kd q = .inl 11) (hm : q ∈ L) (ho : own = RJ4) (hc : CdI G.2.2.2.2 d2 U2 y bc mL ry (aR q :: as) L σ Q2) (hst : stW st ≤ 8) (hdd : d2 + 1 ≤ d) (hu : u + U2 ≤ U) (k : ∀ (v : Int) (L' : List Id4) (σ' : Hp), Q2 v L' σ' → LE L L' → DW X G ρ0 L0 L' (pc + 3) lv (aI v :: st) σ' (u + U2) Q) : DW X G ρ0 L0 L pc lv (as.reverse ++ aR q :: st) σ u Q := by
  obtain ⟨p, l, e, R, s, m, args, below, meth, c⟩ := X
  obtain ⟨g, cy, A, nL, sx⟩ := G
  obtain ⟨hx, hb, hml, hown, hts, hK, hA, hlk, hret, hR, htr, hZ, hY⟩ := F
  intro ρ hρ hLE H locs ls hP hD hI hV hT hS hl
  subst hR
  have hRa : RFd L (aR q :: as) := hT.mm (fun v hv => ?_)
  have hRs : RFd L st := hT.mm (fun v hv => List.mem_append_right _ (List.mem_cons_of_mem _ hv))
  have hf9 := Aof_A hD hA hS.1
  have hM := hc l g cy ρ H.size htr hRa
  have hsta : ((as.reverse ++ aR q :: st).map (cv ρ)) = (as.map (cv ρ)).reverse ++ .ref (ρ q) :: st.map (cv ρ) := by rw [List.map_append, List.map_reverse]; rfl
  obtain ⟨i, hi, hi2⟩ := ws_at (ρ := ρ) (cy := cy) (σ := σ) hm
  rw [ent_obj hk] at hi2
  have hrecv : ∃ cell : Cell, H[ρ q]? = some cell ∧ cell.vm.isStatics = false ∧ s.vm.findClass RJ4 = some cell.cls := va_recv hK hP (q := (RJ4, TJ4, 4)) rfl hi2
  · refine va_calli (va_runSU (C := own) (As := as.map (cv ρ)) (rest := st.map (cv ρ)) (ho ▸ (hK.1 11 (RJ4, TJ4, 4) rfl).2) ⟨hx, hb, hml, hown, hts⟩ hM (hl9.cw hts hdd) ⟨WRd_blind, (ho ▸ hrecv), fun V hV hW => ⟨rfl, WRd_call hK hD hA hρ hZ hY hI hP hS hV hW⟩⟩ rfl (List.length_map ..) hl.1 hsta (lv_room (Nat.le_trans (st_cat st) hst)) hd ⟨hu, by show 64 * u + 64 * U2 ≤ 64 * U; omega⟩) hS (fun q _ h => hf9 q h) hf9 (fun v9 u9 t9 H1 locs1 ht hvm hw hB hz1 hk1 hS1 => ?_)
    obtain ⟨hw1, hw2, hw3, hw4, hw5⟩ := hw
    obtain ⟨hB1, hB2, hB3⟩ := hB
    subst hw1
    have kk := k u9.1 u9.2.1 u9.2.2.1 hw2 hw4 u9.2.2.2 (hρ.tr hLE hw3) (hLE.tr hw4) H1 locs1 ls (by rw [← ht]; exact hB1) (hB2.weaken (fun _ _ _ h => hf9 _ h)) hw5 (hV.le hw4) (hRs.le hw4).i hS1 (lh_agd hw3 hV hl)
    rw [← st_agd hw3 hRs]
    rw [show 64 * u + 64 * U2 = 64 * (u + U2) by omega]
    exact kk
  · rcases List.mem_cons.mp hv with z | z
    · rw [z]; exact List.mem_append_right _ List.mem_cons_self
    · exact List.mem_append_left _ (List.mem_reverse.mpr z)
theorem dw_callSUR {Q2 : Id4 → List Id4 → Hp → Prop} (F : FD X G ρ0 cc own ret d U) (hd : decode cc pc = .ok (.invokespecial idx, 3)) (hl9 : MLSU own idx y bc mL ry as.length) (hk : kd q = .inl 11) (hm : q ∈ L) (ho : own = RJ4) (hc : CdR G.2.2.2.2 d2 U2 y bc mL ry (aR q :: as) L σ Q2) (hst : stW st ≤ 8) (hdd : d2 + 1 ≤ d) (hu : u + U2 ≤ U) (k : ∀ (v : Id4) (L' : List Id4) (σ' : Hp), Q2 v L' σ' → LE L L' → inK L' v → DW X G ρ0 L0 L' (pc + 3) lv (aR v :: st) σ' (u + U2) Q) : DW X G ρ0 L0 L pc lv (as.reverse ++ aR q :: st) σ u Q := by
  obtain ⟨p, l, e, R, s, m, args, below, meth, c⟩ := X
  obtain ⟨g, cy, A, nL, sx⟩ := G
  obtain ⟨hx, hb, hml, hown, hts, hK, hA, hlk, hret, hR, htr, hZ, hY⟩ := F
  intro ρ hρ hLE H locs ls hP hD hI hV hT hS hl
  subst hR
  have hRa : RFd L (aR q :: as) := hT.mm (fun v hv => ?_)
  have hRs : RFd L st := hT.mm (fun v hv => List.mem_append_right _ (List.mem_cons_of_mem _ hv))
  have hf9 := Aof_A hD hA hS.1
  have hM := hc l g cy ρ H.size htr hRa
  have hsta : ((as.reverse ++ aR q :: st).map (cv ρ)) = (as.map (cv ρ)).reverse ++ .ref (ρ q) :: st.map (cv ρ) := by rw [List.map_append, List.map_reverse]; rfl
  obtain ⟨i, hi, hi2⟩ := ws_at (ρ := ρ) (cy := cy) (σ := σ) hm
  rw [ent_obj hk] at hi2
  have hrecv : ∃ cell : Cell, H[ρ q]? = some cell ∧ cell.vm.isStatics = false ∧ s.vm.findClass RJ4 = some cell.cls := va_recv hK hP (q := (RJ4, TJ4, 4)) rfl hi2
  · refine va_callr (va_runSU (C := own) (As := as.map (cv ρ)) (rest := st.map (cv ρ)) (ho ▸ (hK.1 11 (RJ4, TJ4, 4) rfl).2) ⟨hx, hb, hml, hown, hts⟩ hM (hl9.cw hts hdd) ⟨WRd_blind, (ho ▸ hrecv), fun V hV hW => ⟨rfl, WRd_call hK hD hA hρ hZ hY hI hP hS hV hW⟩⟩ rfl (List.length_map ..) hl.1 hsta (lv_room (Nat.le_trans (st_cat st) hst)) hd ⟨hu, by show 64 * u + 64 * U2 ≤ 64 * U; omega⟩) hS (fun q _ h => hf9 q h) hf9 (fun u9 a9 t9 H1 locs1 ht hvm hw hB hz1 hk1 hS1 => ?_)
    obtain ⟨hw2, ⟨hw3, hw4, hw5⟩, hw6⟩ := hw
    obtain ⟨hB0, hB1, hB2, hB3⟩ := hB
    subst hB0
    have kk := k u9.1 u9.2.1 u9.2.2.1 hw2 hw4 hw6 u9.2.2.2 (hρ.tr hLE hw3) (hLE.tr hw4) H1 locs1 ls (by rw [← ht]; exact hB1) (hB2.weaken (fun _ _ _ h => hf9 _ h)) hw5 (hV.le hw4) (RFd.r hw6 (hRs.le hw4)) hS1 (lh_agd hw3 hV hl)
    rw [← st_agd hw3 hRs]
    rw [show 64 * u + 64 * U2 = 64 * (u + U2) by omega]
    exact kk
  · rcases List.mem_cons.mp hv with z | z
    · rw [z]; exact List.mem_append_right _ List.mem_cons_self
    · exact List.mem_append_left _ (List.mem_reverse.mpr z)
theorem dw_callSI {Q2 : Int → List Id4 → Hp → Prop} (F : FD X G ρ0 cc own ret d U) (hd : decode cc pc = .ok (.invokestatic idx, 3)) (hl9 : MLS own idx y bc mL ry as.length) (hc : CdI G.2.2.2.2 d2 U2 y bc mL ry (as) L σ Q2) (hst : stW st ≤ 8) (hdd : d2 + 1 ≤ d) (hu : u + U2 ≤ U) (k : ∀ (v : Int) (L' : List Id4) (σ' : Hp), Q2 v L' σ' → LE L L' → DW X G ρ0 L0 L' (pc + 3) lv (aI v :: st) σ' (u + U2) Q) : DW X G ρ0 L0 L pc lv (as.reverse ++ st) σ u Q := by
  obtain ⟨p, l, e, R, s, m, args, below, meth, c⟩ := X
  obtain ⟨g, cy, A, nL, sx⟩ := G
  obtain ⟨hx, hb, hml, hown, hts, hK, hA, hlk, hret, hR, htr, hZ, hY⟩ := F
  intro ρ hρ hLE H locs ls hP hD hI hV hT hS hl
  subst hR
  have hRa : RFd L (as) := hT.mm (fun v hv => ?_)
  have hRs : RFd L st := hT.mm (fun v hv => List.mem_append_right _ hv)
  have hf9 := Aof_A hD hA hS.1
  have hM := hc l g cy ρ H.size htr hRa
  have hsta : ((as.reverse ++ st).map (cv ρ)) = (as.map (cv ρ)).reverse ++ st.map (cv ρ) := by rw [List.map_append, List.map_reverse]
  · refine va_calli (va_runS (As := as.map (cv ρ)) (rest := st.map (cv ρ)) ⟨hx, hb, hml, hown, hts⟩ hM (hl9.cw hts hdd) ⟨WRd_blind, fun V hV hW => ⟨rfl, WRd_call hK hD hA hρ hZ hY hI hP hS hV hW⟩⟩ rfl (List.length_map ..) hl.1 hsta (lv_room (Nat.le_trans (st_cat st) hst)) hd ⟨hu, by show 64 * u + 64 * U2 ≤ 64 * U; omega⟩) hS (fun q _ h => hf9 q h) hf9 (fun v9 u9 t9 H1 locs1 ht hvm hw hB hz1 hk1 hS1 => ?_)
    obtain ⟨hw1, hw2, hw3, hw4, hw5⟩ := hw
    obtain ⟨hB1, hB2, hB3⟩ := hB
    subst hw1
    have kk := k u9.1 u9.2.1 u9.2.2.1 hw2 hw4 u9.2.2.2 (hρ.tr hLE hw3) (hLE.tr hw4) H1 locs1 ls (by rw [← ht]; exact hB1) (hB2.weaken (fun _ _ _ h => hf9 _ h)) hw5 (hV.le hw4) (hRs.le hw4).i hS1 (lh_agd hw3 hV hl)
    rw [← st_agd hw3 hRs]
    rw [show 64 * u + 64 * U2 = 64 * (u + U2) by omega]
    exact kk
  · exact List.mem_append_left _ (List.mem_reverse.mpr hv)
theorem dw_callSV {Q2 : List Id4 → Hp → Prop} (F : FD X G ρ0 cc own ret d U) (hd : decode cc pc = .ok (.invokestatic idx, 3)) (hl9 : MLS own idx y bc mL ry as.length) (hc : CdV G.2.2.2.2 d2 U2 y bc mL ry (as) L σ Q2) (hst : stW st ≤ 8) (hdd : d2 + 1 ≤ d) (hu : u + U2 ≤ U) (k : ∀ (L' : List Id4) (σ' : Hp), Q2 L' σ' → LE L L' → DW X G ρ0 L0 L' (pc + 3) lv (st) σ' (u + U2) Q) : DW X G ρ0 L0 L pc lv (as.reverse ++ st) σ u Q := by
  obtain ⟨p, l, e, R, s, m, args, below, meth, c⟩ := X
  obtain ⟨g, cy, A, nL, sx⟩ := G
  obtain ⟨hx, hb, hml, hown, hts, hK, hA, hlk, hret, hR, htr, hZ, hY⟩ := F
  intro ρ hρ hLE H locs ls hP hD hI hV hT hS hl
  subst hR
  have hRa : RFd L (as) := hT.mm (fun v hv => ?_)
  have hRs : RFd L st := hT.mm (fun v hv => List.mem_append_right _ hv)
  have hf9 := Aof_A hD hA hS.1
  have hM := hc l g cy ρ H.size htr hRa
  have hsta : ((as.reverse ++ st).map (cv ρ)) = (as.map (cv ρ)).reverse ++ st.map (cv ρ) := by rw [List.map_append, List.map_reverse]
  · refine va_callv (va_runS (As := as.map (cv ρ)) (rest := st.map (cv ρ)) ⟨hx, hb, hml, hown, hts⟩ hM (hl9.cw hts hdd) ⟨WRd_blind, fun V hV hW => ⟨rfl, WRd_call hK hD hA hρ hZ hY hI hP hS hV hW⟩⟩ rfl (List.length_map ..) hl.1 hsta (lv_room (Nat.le_trans (st_cat st) hst)) hd ⟨hu, by show 64 * u + 64 * U2 ≤ 64 * U; omega⟩) hS (fun q _ h => hf9 q h) hf9 (fun u9 t9 H1 locs1 ht hvm hw hB hz1 hk1 hS1 => ?_)
    obtain ⟨hw2, hw3, hw4, hw5⟩ := hw
    obtain ⟨hB1, hB2, hB3⟩ := hB
    have kk := k u9.1 u9.2.1 hw2 hw4 u9.2.2 (hρ.tr hLE hw3) (hLE.tr hw4) H1 locs1 ls (by rw [← ht]; exact hB1) (hB2.weaken (fun _ _ _ h => hf9 _ h)) hw5 (hV.le hw4) (hRs.le hw4) hS1 (lh_agd hw3 hV hl)
    rw [← st_agd hw3 hRs]
    rw [show 64 * u + 64 * U2 = 64 * (u + U2) by omega]
    exact kk
  · exact List.mem_append_left _ (List.mem_reverse.mpr hv)
theorem dw_callSR {Q2 : Id4 → List Id4 → Hp → Prop} (F : FD X G ρ0 cc own ret d U) (hd : decode cc pc = .ok (.invokestatic idx, 3)) (hl9 : MLS own idx y bc mL ry as.length) (hc : CdR G.2.2.2.2 d2 U2 y bc mL ry (as) L σ Q2) (hst : stW st ≤ 8) (hdd : d2 + 1 ≤ d) (hu : u + U2 ≤ U) (k : ∀ (v : Id4) (L' : List Id4) (σ' : Hp), Q2 v L' σ' → LE L L' → inK L' v → DW X G ρ0 L0 L' (pc + 3) lv (aR v :: st) σ' (u + U2) Q) : DW X G ρ0 L0 L pc lv (as.reverse ++ st) σ u Q := by
  obtain ⟨p, l, e, R, s, m, args, below, meth, c⟩ := X
  obtain ⟨g, cy, A, nL, sx⟩ := G
  obtain ⟨hx, hb, hml, hown, hts, hK, hA, hlk, hret, hR, htr, hZ, hY⟩ := F
  intro ρ hρ hLE H locs ls hP hD hI hV hT hS hl
  subst hR
  have hRa : RFd L (as) := hT.mm (fun v hv => ?_)
  have hRs : RFd L st := hT.mm (fun v hv => List.mem_append_right _ hv)
  have hf9 := Aof_A hD hA hS.1
  have hM := hc l g cy ρ H.size htr hRa
  have hsta : ((as.reverse ++ st).map (cv ρ)) = (as.map (cv ρ)).reverse ++ st.map (cv ρ) := by rw [List.map_append, List.map_reverse]
  · refine va_callr (va_runS (As := as.map (cv ρ)) (rest := st.map (cv ρ)) ⟨hx, hb, hml, hown, hts⟩ hM (hl9.cw hts hdd) ⟨WRd_blind, fun V hV hW => ⟨rfl, WRd_call hK hD hA hρ hZ hY hI hP hS hV hW⟩⟩ rfl (List.length_map ..) hl.1 hsta (lv_room (Nat.le_trans (st_cat st) hst)) hd ⟨hu, by show 64 * u + 64 * U2 ≤ 64 * U; omega⟩) hS (fun q _ h => hf9 q h) hf9 (fun u9 a9 t9 H1 locs1 ht hvm hw hB hz1 hk1 hS1 => ?_)
    obtain ⟨hw2, ⟨hw3, hw4, hw5⟩, hw6⟩ := hw
    obtain ⟨hB0, hB1, hB2, hB3⟩ := hB
    subst hB0
    have kk := k u9.1 u9.2.1 u9.2.2.1 hw2 hw4 hw6 u9.2.2.2 (hρ.tr hLE hw3) (hLE.tr hw4) H1 locs1 ls (by rw [← ht]; exact hB1) (hB2.weaken (fun _ _ _ h => hf9 _ h)) hw5 (hV.le hw4) (RFd.r hw6 (hRs.le hw4)) hS1 (lh_agd hw3 hV hl)
    rw [← st_agd hw3 hRs]
    rw [show 64 * u + 64 * U2 = 64 * (u + U2) by omega]
    exact kk
  · exact List.mem_append_left _ (List.mem_reverse.mpr hv)
theorem dw_callNV {Q2 : List Id4 → Hp → Prop} (F : FD X G ρ0 cc own ret d U) (hd : decode cc pc = .ok (.invokespecial idx, 3)) (hl9 : MLId own idx y bc mL as.length) (hc : CdV G.2.2.2.2 d2 U2 y bc mL none (aR q :: as) L σ Q2) (hst : stW st ≤ 8) (hdd : d2 + 1 ≤ d) (hu : u + U2 ≤ U) (k : ∀ (L' : List Id4) (σ' : Hp), Q2 L' σ' → LE L L' → DW X G ρ0 L0 L' (pc + 3) lv (st) σ' (u + U2) Q) : DW X G ρ0 L0 L pc lv (as.reverse ++ aR q :: st) σ u Q := by
  obtain ⟨p, l, e, R, s, m, args, below, meth, c⟩ := X
  obtain ⟨g, cy, A, nL, sx⟩ := G
  obtain ⟨hx, hb, hml, hown, hts, hK, hA, hlk, hret, hR, htr, hZ, hY⟩ := F
  intro ρ hρ hLE H locs ls hP hD hI hV hT hS hl
  subst hR
  have hRa : RFd L (aR q :: as) := hT.mm (fun v hv => ?_)
  have hRs : RFd L st := hT.mm (fun v hv => List.mem_append_right _ (List.mem_cons_of_mem _ hv))
  have hf9 := Aof_A hD hA hS.1
  have hM := hc l g cy ρ H.size htr hRa
  have hsta : ((as.reverse ++ aR q :: st).map (cv ρ)) = (as.map (cv ρ)).reverse ++ .ref (ρ q) :: st.map (cv ρ) := by rw [List.map_append, List.map_reverse]; rfl
  · refine va_callv (va_runI (As := as.map (cv ρ)) (rest := st.map (cv ρ)) ⟨hx, hb, hml, hown, hts⟩ hM (cwI as.length hts (gwIn (gwCons hl9.2.2.2.2.2.2)) rfl rfl rfl (hts _ hl9.2.2.2.2.2.1) (hts _ hl9.2.2.1) (hts _ hl9.2.2.2.2.1) hl9.2.2.2.1 hl9.1 ⟨hdd, by have := hl9.2.1; show 8 + (mL + 11) + 80 * d2 ≤ 80 * d; omega⟩) ⟨WRd_blind, fun V hV hW => ⟨rfl, WRd_call hK hD hA hρ hZ hY hI hP hS hV hW⟩⟩ rfl (List.length_map ..) hl.1 hsta (lv_room (Nat.le_trans (st_cat st) hst)) hd ⟨hu, by show 64 * u + 64 * U2 ≤ 64 * U; omega⟩) hS (fun q _ h => hf9 q h) hf9 (fun u9 t9 H1 locs1 ht hvm hw hB hz1 hk1 hS1 => ?_)
    obtain ⟨hw2, hw3, hw4, hw5⟩ := hw
    obtain ⟨hB1, hB2, hB3⟩ := hB
    have kk := k u9.1 u9.2.1 hw2 hw4 u9.2.2 (hρ.tr hLE hw3) (hLE.tr hw4) H1 locs1 ls (by rw [← ht]; exact hB1) (hB2.weaken (fun _ _ _ h => hf9 _ h)) hw5 (hV.le hw4) (hRs.le hw4) hS1 (lh_agd hw3 hV hl)
    rw [← st_agd hw3 hRs]
    rw [show 64 * u + 64 * U2 = 64 * (u + U2) by omega]
    exact kk
  · rcases List.mem_cons.mp hv with z | z
    · rw [z]; exact List.mem_append_right _ List.mem_cons_self
    · exact List.mem_append_left _ (List.mem_reverse.mpr z)
theorem dw_objinit (F : FD X G ρ0 cc own ret d U) {x : Id4} (hd : decode cc pc = .ok (.invokespecial idx, 3)) (hl1 : Cond.methodLink own idx Lib.objectInit ∈ Gw) (hl2 : Cond.instanceMethod Lib.objectInit ∈ Gw) (hl3 : Cond.code Lib.objectInit ⟨#[0xb1]⟩ 1 none ∈ Gw) (hd1 : 1 ≤ d) (hst : stW st ≤ 8) (k : DW X G ρ0 L0 L (pc + 3) lv (st) σ u Q) : DW X G ρ0 L0 L pc lv (aR x :: st) σ u Q := by
  obtain ⟨p, l, e, R, s, m, args, below, meth, c⟩ := X
  obtain ⟨g, cy, A, nL, sx⟩ := G
  obtain ⟨hx, hb, hml, hown, hts, hK, hA, hlk, hret, hR, htr, hZ, hY⟩ := F
  intro ρ hρ hLE H locs ls hP hD hI hV hT hS hl
  subst hR
  refine W.objInit (rest := st.map (cv ρ)) hx hb hown (hts _ hl1) (hts _ hl2) (hts _ hl3) rfl (by rw [hml]; exact hl.1) rfl hd hd1 ?_ ?_
  · have := st_cat (ρ := ρ) st
    show 2 * 0 + _ + 12 ≤ 80 * d
    omega
  · exact k ρ hρ hLE H locs ls hP hD hI hV hT.tl hS hl
end DCALLS
