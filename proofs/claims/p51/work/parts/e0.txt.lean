/-! e0: a text that is being made, as the list of its letters -/
theorem CdR.imp {sx : Sx} {d U : Nat} {y : MethodName} {bc : ByteArray} {mL : Nat} {ret : Option FieldType} {args : List AV} {L : List Id4} {σ : Hp} {Q Q2 : Id4 → List Id4 → Hp → Prop} (h : CdR sx d U y bc mL ret args L σ Q) (hq : ∀ r L' σ', LE L L' → inK L' r → Q r L' σ' → Q2 r L' σ') : CdR sx d U y bc mL ret args L σ Q2 := by
  intro l g cy ρ sz htr hrf
  refine MetFree.imp (h l g cy ρ sz htr hrf) (fun a s o s' z => ?_)
  obtain ⟨⟨⟨u, a9, e, ⟨h1, h2, h3⟩, h4⟩, h5⟩, h6⟩ := z
  exact ⟨⟨⟨u, a9, e, ⟨hq _ _ _ h2.2.1 h3 h1, h2, h3⟩, h4⟩, h5⟩, h6⟩
theorem CdV.imp {sx : Sx} {d U : Nat} {y : MethodName} {bc : ByteArray} {mL : Nat} {ret : Option FieldType} {args : List AV} {L : List Id4} {σ : Hp} {Q Q2 : List Id4 → Hp → Prop} (h : CdV sx d U y bc mL ret args L σ Q) (hq : ∀ L' σ', LE L L' → Q L' σ' → Q2 L' σ') : CdV sx d U y bc mL ret args L σ Q2 := by
  intro l g cy ρ sz htr hrf
  refine MetFree.imp (h l g cy ρ sz htr hrf) (fun a s o s' z => ?_)
  obtain ⟨⟨⟨u, e, ⟨h1, h2⟩, h4⟩, h5⟩, h6⟩ := z
  exact ⟨⟨⟨u, e, ⟨hq _ _ h2.2.1 h1, h2⟩, h4⟩, h5⟩, h6⟩
theorem CdR.di {sx : Sx} {d U : Nat} {y : MethodName} {bc : ByteArray} {mL : Nat} {ret : Option FieldType} {args : List AV} {L : List Id4} {σ : Hp} {Q : Id4 → List Id4 → Hp → Prop} (h : DI sx L σ → CdR sx d U y bc mL ret args L σ Q) : CdR sx d U y bc mL ret args L σ Q := by
  intro l g cy ρ sz htr hrf p e ha hc hk s m args' below hf happ hP hK
  exact h hP.2.2.2.2.2.1 l g cy ρ sz htr hrf p e ha hc hk s m args' below hf happ hP hK
/-- what a cell of bytes holds -/
def HLD (M : Id4 → Int → Int) (q : Id4) (l : List Int) : Prop := ∀ j : Nat, j < l.length → M q (j : Int) = l.getD j 0
def TXT (L0 L : List Id4) (σ : Hp) (q : Id4) (l : List Int) : Prop := ∃ bq m, SBd L σ q bq m l.length ∧ q ∉ L0 ∧ bq ∉ L0 ∧ HLD σ.1 bq l
def STR (N L : List Id4) (σ : Hp) (x : Id4) (l : List Int) : Prop := ∃ sq, Str L σ x sq l.length ∧ HLD σ.1 sq l ∧ sq ∉ N
def RDY (L0 L : List Id4) (σ : Hp) (q : Id4) (l : List Int) (x : Id4) (l2 : List Int) : Prop := ∃ bq m sq, SBd L σ q bq m l.length ∧ q ∉ L0 ∧ bq ∉ L0 ∧ HLD σ.1 bq l ∧ Str L σ x sq l2.length ∧ HLD σ.1 sq l2 ∧ sq ≠ bq
/-- all that was there of old stays -/
abbrev KO (L0 : List Id4) (σ σ' : Hp) : Prop := KP L0 (fun _ => False) σ σ'
theorem KO.tr {L L1 : List Id4} {σ σ1 σ2 : Hp} (hL : LE L L1) (h1 : KO L σ σ1) (h2 : KO L1 σ1 σ2) : KO L σ σ2 := KP.tr hL (fun _ _ z => z) h1 h2
theorem KP.ko {L0 L : List Id4} {X : Id4 → Prop} {σ σ1 : Hp} (hL : LE L0 L) (h : KP L X σ σ1) (hX : ∀ x, inK L0 x → ¬ X x) : KO L0 σ σ1 := fun x hx _ => h x (hx.le hL) (hX x hx)
theorem hld_app {M : Id4 → Int → Int} {q : Id4} {l l2 : List Int} (h1 : ∀ j : Int, 0 ≤ j → j < l.length → M q j = l.getD j.toNat 0) (h2 : ∀ j : Int, 0 ≤ j → j < l2.length → M q (l.length + j) = l2.getD j.toNat 0) : HLD M q (l ++ l2) := fun j hj => by
  rw [List.length_append] at hj
  by_cases z : j < l.length
  · rw [h1 j (by omega) (by omega), show ((j : Int)).toNat = j by omega, List.getD_eq_getElem?_getD, List.getD_eq_getElem?_getD, List.getElem?_append_left z]
  · have e := h2 ((j - l.length : Nat) : Int) (by omega) (by omega)
    rw [show ((l.length : Int) + ((j - l.length : Nat) : Int)) = (j : Int) by omega, show (((j - l.length : Nat) : Int)).toNat = j - l.length by omega] at e
    rw [e, List.getD_eq_getElem?_getD, List.getD_eq_getElem?_getD, List.getElem?_append_right (by omega)]
theorem HLD.at {M : Id4 → Int → Int} {q : Id4} {l : List Int} (h : HLD M q l) {j : Int} (h0 : 0 ≤ j) (h1 : j < l.length) : M q j = l.getD j.toNat 0 := by
  have := h j.toNat (by omega)
  rw [show ((j.toNat : Nat) : Int) = j by omega] at this
  exact this
theorem ap_txt {L0 L : List Id4} {M : Id4 → Int → Int} {Rf : Id4 → Int → Option Id4} {q bq : Id4} {l l2 : List Int} {t : Int → Int} {L' : List Id4} {σ' : Hp} (hL : LE L0 L) (hL2 : LE L L') (hq : q ∉ L0) (hb : bq ∉ L0) (hq20 : q.1 < 20) (hb20 : bq.1 < 20) (hh : HLD M bq l) (ht : ∀ j : Int, 0 ≤ j → j < l2.length → t j = l2.getD j.toNat 0) (h : APd L M Rf q bq l.length l2.length t L' σ') : TXT L0 L' σ' q (l ++ l2) ∧ KO L0 (M, Rf) σ' := by
  obtain ⟨bq', m', h1, h2, h3, h4, h5⟩ := h
  refine ⟨⟨bq', m', by rw [List.length_append, Int.natCast_add]; exact h1, hq, ?_, hld_app (fun j j0 j1 => (h2 j j0 j1).trans (hh.at j0 j1)) (fun j j0 j1 => (h3 j j0 j1).trans (ht j j0 j1))⟩, h4.ko hL (fun x hx z => ?_)⟩
  · rcases h5 with h5 | h5
    · rw [h5]; exact hb
    · exact fun z => h5 (hL _ z)
  · rcases z with z | z
    · exact inK_ne hx hq hq20 z
    · exact inK_ne hx hb hb20 z
set_option maxRecDepth 100000 in
theorem cdS_append (sx : Sx) (L0 L : List Id4) (σ : Hp) (q x : Id4) (l l2 : List Int) (hL : LE L0 L) (h : RDY L0 L σ q l x l2) (hn : l.length + l2.length ≤ 400) : CdR sx 6 16 yJ4_append_15ec4 cJ4_append_15ec4 2 (some (.object "java/lang/StringBuilder")) [aR q, aR x] L σ (fun r L' σ' => r = q ∧ TXT L0 L' σ' q (l ++ l2) ∧ KO L0 σ σ') := by
  obtain ⟨bq, m, sq, h1, h2, h3, h4, h5, h6, h7⟩ := h
  obtain ⟨M, Rf⟩ := σ
  refine CdR.di (fun hI => ?_)
  refine (cdJ_appendS sx L M Rf q bq x sq m l2.length l.length h1 h5 h7 (by omega)).imp (fun r L' σ' hLE _ ⟨a, b⟩ => ⟨a, ?_⟩)
  exact ap_txt hL hLE h2 h3 (hI.1 _ h1.1) (hI.1 _ h1.2.2.2.2.2.1) h4 (fun j j0 j1 => h6.at j0 j1) b
def dgs (v : Int) : List Int := if v < 10 then [48 + v] else [48 + v / 10, 48 + v % 10]
theorem dgs_len {v : Int} : (dgs v).length = dg v := by
  unfold dgs dg
  split <;> rfl
set_option maxRecDepth 100000 in
theorem cdI_append (sx : Sx) (L0 L : List Id4) (σ : Hp) (q : Id4) (l : List Int) (v : Int) (hL : LE L0 L) (h : TXT L0 L σ q l) (hv : 0 ≤ v ∧ v ≤ 99) (hn : l.length + 2 ≤ 400) : CdR sx 6 16 yJ4_append_bf812 cJ4_append_bf812 2 (some (.object "java/lang/StringBuilder")) [aR q, aI v] L σ (fun r L' σ' => r = q ∧ TXT L0 L' σ' q (l ++ dgs v) ∧ KO L0 σ σ') := by
  obtain ⟨bq, m, h1, h2, h3, h4⟩ := h
  obtain ⟨M, Rf⟩ := σ
  refine CdR.di (fun hI => ?_)
  refine (cdJ_appendI sx L M Rf q bq m l.length v h1 hv (by omega)).imp (fun r L' σ' hLE _ ⟨a, b⟩ => ⟨a, ?_⟩)
  rw [← dgs_len] at b
  refine ap_txt hL hLE h2 h3 (hI.1 _ h1.1) (hI.1 _ h1.2.2.2.2.2.1) h4 (fun j j0 j1 => ?_) b
  rw [dgs_len] at j1
  unfold dgt dgs
  unfold dg at j1
  by_cases z : v < 10
  · rw [if_pos z] at j1 ⊢
    rw [if_pos z, show j.toNat = 0 by omega]
    rfl
  · rw [if_neg z] at j1 ⊢
    rw [if_neg z]
    by_cases y : j = 0
    · rw [if_pos y, y]; rfl
    · rw [if_neg y, show j.toNat = 1 by omega]; rfl
set_option maxRecDepth 100000 in
theorem cdT_init (sx : Sx) (L0 L : List Id4) (M : Id4 → Int → Int) (Rf : Id4 → Int → Option Id4) (q : Id4) (hL : LE L0 L) (hm : q ∈ L) (hkq : kd q = .inl 11) (hz : ∀ k, M q k = 0) (hq : q ∉ L0) (hq20 : q.1 < 20) : CdV sx 3 1 yJ4_init_da8c8 cJ4_init_da8c8 1 none [aR q] L (M, Rf) (fun L' σ' => TXT L0 L' σ' q [] ∧ KO L0 (M, Rf) σ') :=
  (cdJ_initSB sx L M Rf q hm hkq hz).imp (fun L' σ' _ ⟨bq, h1, h2, h3⟩ => ⟨⟨bq, 16, h1, hq, fun z => h3 (hL _ z), fun j hj => absurd hj (Nat.not_lt_zero j)⟩, h2.ko hL (fun x hx z => inK_ne hx hq hq20 z)⟩)
set_option maxRecDepth 100000 in
theorem cdT_toString (sx : Sx) (N L0 L : List Id4) (σ : Hp) (q : Id4) (l : List Int) (hN : LE N L0) (hL : LE L0 L) (h : TXT L0 L σ q l) (hn : l.length ≤ 400) : CdR sx 6 17 yJ4_toString_0e30d cJ4_toString_0e30d 1 (some (.object "java/lang/String")) [aR q] L σ (fun r L' σ' => STR N L' σ' r l ∧ KO L0 σ σ') := by
  obtain ⟨bq, m, h1, h2, h3, h4⟩ := h
  obtain ⟨M, Rf⟩ := σ
  exact (cdJ_toString sx L M Rf q bq m l.length h1 hn).imp (fun r L' σ' _ _ ⟨_, bs, a, b, c, d9⟩ => ⟨⟨bs, a, fun j hj => (b j (by omega) (by omega)).trans (h4 j hj), fun z => d9 (hL _ (hN _ z))⟩, c.ko hL (fun _ _ z => z)⟩)
def kW (i : Nat) : List Int := (wByt.getD i []).map Int32.toInt
theorem kW_all : (List.range 9).all (fun i => decide (wLen.getD i 0 = (kW i).length) && decide ((kW i).length ≤ 400) && (List.range (kW i).length).all (fun j => decide (((wByt.getD i []).getD j 0).toInt = (kW i).getD j 0) && decide (0 ≤ (kW i).getD j 0) && decide ((kW i).getD j 0 ≤ 127))) = true := by decide +kernel
theorem str_K {sx : Sx} {L : List Id4} {σ : Hp} {i : Nat} (hI : KS sx σ) (hi : i < 9) : Str L σ (20, (i : Int), 0, 0) (21, (i : Int), 0, 0) (kW i).length ∧ HLD σ.1 (21, (i : Int), 0, 0) (kW i) := by
  have h := List.all_eq_true.mp kW_all i (List.mem_range.mpr hi)
  rw [Bool.and_eq_true, Bool.and_eq_true, decide_eq_true_eq, decide_eq_true_eq] at h
  obtain ⟨⟨h1, h2⟩, h3⟩ := h
  obtain ⟨a, b, c⟩ := hI.1 i hi
  have hh : HLD σ.1 (21, (i : Int), 0, 0) (kW i) := fun j hj => by
    have h4 := List.all_eq_true.mp h3 j (List.mem_range.mpr hj)
    rw [Bool.and_eq_true, Bool.and_eq_true, decide_eq_true_eq, decide_eq_true_eq, decide_eq_true_eq] at h4
    exact (c j (by omega)).trans h4.1.1
  refine ⟨⟨Or.inr ⟨i, hi, rfl⟩, b, a, ?_, Or.inr ⟨i, hi, rfl⟩, h2, fun j j0 j1 => ?_⟩, hh⟩
  · rw [← h1]
    rfl
  · have h4 := List.all_eq_true.mp h3 j.toNat (List.mem_range.mpr (by omega))
    rw [Bool.and_eq_true, Bool.and_eq_true, decide_eq_true_eq, decide_eq_true_eq, decide_eq_true_eq] at h4
    rw [hh.at j0 j1]
    exact ⟨h4.1.2, h4.2⟩
theorem rdy_K {sx : Sx} {L0 L : List Id4} {σ : Hp} {q : Id4} {l : List Int} (i : Nat) (hi : i < 9) (hI : DI sx L σ) (h : TXT L0 L σ q l) : RDY L0 L σ q l (20, (i : Int), 0, 0) (kW i) := by
  obtain ⟨bq, m, h1, h2, h3, h4⟩ := h
  obtain ⟨a, b⟩ := str_K (L := L) hI.2.2.2.2 hi
  refine ⟨bq, m, _, h1, h2, h3, h4, a, b, fun z => ?_⟩
  have := hI.1 _ h1.2.2.2.2.2.1
  rw [← z] at this
  exact absurd this (by dsimp only; omega)
theorem STR.ko {N L0 L : List Id4} {σ σ1 : Hp} {x : Id4} {l : List Int} (h : STR N L0 σ x l) (hL : LE L0 L) (hK : KO L0 σ σ1) : STR N L σ1 x l := by
  obtain ⟨sq, a, b, c⟩ := h
  obtain ⟨a1, a2⟩ := a.kp hL hK (fun z => z) (fun z => z)
  exact ⟨sq, a1, fun j hj => by rw [a2]; exact b j hj, c⟩
theorem rdy_T {sx : Sx} {N L0 L : List Id4} {σ0 σ : Hp} {q x : Id4} {l l2 : List Int} (hI : DI sx L σ) (hx : STR N L0 σ0 x l2) (hL : LE L0 L) (hK : KO L0 σ0 σ) (h : TXT L0 L σ q l) : RDY L0 L σ q l x l2 := by
  obtain ⟨sq, a, b, -⟩ := hx
  obtain ⟨a1, a2⟩ := a.kp hL hK (fun z => z) (fun z => z)
  obtain ⟨bq, m, h1, h2, h3, h4⟩ := h
  refine ⟨bq, m, sq, h1, h2, h3, h4, a1, fun j hj => by rw [a2]; exact b j hj, fun z => ?_⟩
  rcases a.2.2.2.2.1 with y | ⟨i, -, y⟩
  · exact h3 (z ▸ y)
  · have := hI.1 _ h1.2.2.2.2.2.1
    rw [← z, y] at this
    exact absurd this (by dsimp only; omega)
theorem SBd.ko {L L1 : List Id4} {σ σ1 : Hp} {q bq : Id4} {m : Nat} {n : Int} (h : SBd L σ q bq m n) (hL : LE L L1) (hK : KO L σ σ1) : SBd L1 σ1 q bq m n ∧ σ1.1 bq = σ.1 bq := by
  obtain ⟨a, b, c, d, e, f, g, i, j, k⟩ := h
  obtain ⟨p1, p2⟩ := hK q (Or.inl a) (fun z => z)
  obtain ⟨p3, p4⟩ := hK bq (Or.inl f) (fun z => z)
  exact ⟨⟨hL _ a, b, by rw [p1]; exact c, by rw [p2]; exact d, e, hL _ f, g, by rw [p1]; exact i, j, fun j9 j0 j1 => by rw [p3]; exact k j9 j0 j1⟩, p3⟩
/-- a letter of the text abcde, cut out -/
theorem cdT_sub (sx : Sx) (L0 L : List Id4) (σ : Hp) (q : Id4) (l : List Int) (x : Int) (hL : LE L0 L) (h : TXT L0 L σ q l) (hx : 0 ≤ x ∧ x ≤ 4) : CdR sx 5 17 yJ0_substring_37a41 cJ0_substring_37a41 5 (some (.object "java/lang/String")) [aR (20, 6, 0, 0), aI x, aI (x + 1)] L σ (fun r L' σ' => RDY L0 L' σ' q l r [97 + x] ∧ KO L0 σ σ') := by
  obtain ⟨bq, m, h1, h2, h3, h4⟩ := h
  obtain ⟨M, Rf⟩ := σ
  refine CdR.di (fun hI => ?_)
  obtain ⟨a, b⟩ := str_K (i := 6) (L := L) hI.2.2.2.2 (by decide)
  have e6 : kW 6 = [97, 98, 99, 100, 101] := by decide +kernel
  rw [e6] at a b
  refine (cdJ_substring sx L M Rf _ _ _ x a ⟨hx.1, by simp only [List.length]; omega⟩ (by simp only [List.length]; omega)).imp (fun r L' σ' hLE _ ⟨_, bs, c1, c2, c3, c4⟩ => ?_)
  obtain ⟨s1, s2⟩ := h1.ko hLE c3
  refine ⟨⟨bq, m, bs, s1, h2, h3, fun j hj => by rw [s2]; exact h4 j hj, c1, fun j hj => ?_, fun z => c4 (z ▸ h1.2.2.2.2.2.1)⟩, c3.ko hL (fun _ _ z => z)⟩
  have hj0 : j = 0 := by simp only [List.length] at hj; omega
  subst hj0
  rw [c2 _ (by omega) (by omega)]
  show M (21, 6, 0, 0) (x + 0) = 97 + x
  have hb := b.at (j := x) hx.1 (by simp only [List.length]; omega)
  rw [show x + 0 = x by omega]
  refine hb.trans ?_
  have : x = 0 ∨ x = 1 ∨ x = 2 ∨ x = 3 ∨ x = 4 := by omega
  rcases this with z | z | z | z | z <;> subst z <;> rfl
