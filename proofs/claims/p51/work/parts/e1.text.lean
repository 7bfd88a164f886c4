/-! e1: the law's text -/
def STX (L0 : List Id4) (σ0 : Hp) (L : List Id4) (σ : Hp) (q : Id4) (l : List Int) (c : Nat) : Prop := LE L0 L ∧ KO L0 σ0 σ ∧ TXT L0 L σ q l ∧ l.length ≤ c
def RDX (L0 : List Id4) (σ0 : Hp) (L : List Id4) (σ : Hp) (q : Id4) (l : List Int) (c : Nat) (x : Id4) (l2 : List Int) : Prop := LE L0 L ∧ KO L0 σ0 σ ∧ RDY L0 L σ q l x l2 ∧ l.length ≤ c
theorem STX.at {L0 L : List Id4} {σ0 σ : Hp} {q x : Id4} {l : List Int} {c : Nat} (h : STX L0 σ0 L σ q l c) (hx : x ∈ L0) : σ.1 x = σ0.1 x := (h.2.1 x (Or.inl hx) (fun z => z)).1
theorem RDX.at {L0 L : List Id4} {σ0 σ : Hp} {q x x2 : Id4} {l l2 : List Int} {c : Nat} (h : RDX L0 σ0 L σ q l c x2 l2) (hx : x ∈ L0) : σ.1 x = σ0.1 x := (h.2.1 x (Or.inl hx) (fun z => z)).1
theorem STX.mem {L0 L : List Id4} {σ0 σ : Hp} {q : Id4} {l : List Int} {c : Nat} (h : STX L0 σ0 L σ q l c) : q ∈ L := by
  obtain ⟨-, -, ⟨bq, m, h1, -⟩, -⟩ := h
  exact h1.1
theorem RDX.mem {L0 L : List Id4} {σ0 σ : Hp} {q x : Id4} {l l2 : List Int} {c : Nat} (h : RDX L0 σ0 L σ q l c x l2) : q ∈ L := by
  obtain ⟨-, -, ⟨bq, m, sq, h1, -⟩, -⟩ := h
  exact h1.1
set_option maxRecDepth 100000 in
theorem cX_init (sx : Sx) (L : List Id4) (M : Id4 → Int → Int) (Rf : Id4 → Int → Option Id4) (hf : (11, (L.length : Int), 0, 0) ∉ L) : CdV sx 3 1 yJ4_init_da8c8 cJ4_init_da8c8 1 none [aR (11, (L.length : Int), 0, 0)] (L ++ [(11, (L.length : Int), 0, 0)]) (zM M (11, (L.length : Int), 0, 0), zR Rf (11, (L.length : Int), 0, 0)) (fun L' σ' => STX L (M, Rf) L' σ' (11, (L.length : Int), 0, 0) [] 0) :=
  (cdT_init sx L _ _ _ _ LE.rf.app (List.mem_append_right _ List.mem_cons_self) rfl (fun k => zM_same) hf (Nat.le_of_ble_eq_true rfl)).imp (fun L' σ' hLE ⟨a, b⟩ => ⟨LE.rf.app.tr hLE, KO.tr LE.rf (fun x hx _ => ⟨zM_ne (inK_ne hx hf (Nat.le_of_ble_eq_true rfl)), zR_ne (inK_ne hx hf (Nat.le_of_ble_eq_true rfl))⟩) b, a, Nat.zero_le _⟩)
set_option maxRecDepth 100000 in
theorem cX_K (sx : Sx) (L0 : List Id4) (σ0 : Hp) (L : List Id4) (σ : Hp) (q : Id4) (l : List Int) (c : Nat) (i n : Nat) (hi : i < 9) (h : STX L0 σ0 L σ q l c) (hk : (kW i).length ≤ n) (hn : c + n ≤ 400) : CdR sx 6 16 yJ4_append_15ec4 cJ4_append_15ec4 2 (some (.object "java/lang/StringBuilder")) [aR q, aR (20, (i : Int), 0, 0)] L σ (fun r L' σ' => r = q ∧ STX L0 σ0 L' σ' q (l ++ kW i) (c + n)) := by
  obtain ⟨h1, h2, h3, h4⟩ := h
  exact CdR.di (fun hI => (cdS_append sx L0 L σ q _ l (kW i) h1 (rdy_K i hi hI h3) (by omega)).imp (fun r L' σ' hLE _ ⟨a, b, c9⟩ => ⟨a, h1.tr hLE, h2.tr LE.rf c9, b, by rw [List.length_append]; omega⟩))
set_option maxRecDepth 100000 in
theorem cX_T (sx : Sx) (N L0 : List Id4) (σ0 : Hp) (L : List Id4) (σ : Hp) (q x : Id4) (l l2 : List Int) (c : Nat) (n : Nat) (h : STX L0 σ0 L σ q l c) (hx : STR N L0 σ0 x l2) (hk : l2.length ≤ n) (hn : c + n ≤ 400) : CdR sx 6 16 yJ4_append_15ec4 cJ4_append_15ec4 2 (some (.object "java/lang/StringBuilder")) [aR q, aR x] L σ (fun r L' σ' => r = q ∧ STX L0 σ0 L' σ' q (l ++ l2) (c + n)) := by
  obtain ⟨h1, h2, h3, h4⟩ := h
  exact CdR.di (fun hI => (cdS_append sx L0 L σ q _ l l2 h1 (rdy_T hI hx h1 h2 h3) (by omega)).imp (fun r L' σ' hLE _ ⟨a, b, c9⟩ => ⟨a, h1.tr hLE, h2.tr LE.rf c9, b, by rw [List.length_append]; omega⟩))
set_option maxRecDepth 100000 in
theorem cX_S (sx : Sx) (L0 : List Id4) (σ0 : Hp) (L : List Id4) (σ : Hp) (q x : Id4) (l : List Int) (v : Int) (c : Nat) (h : RDX L0 σ0 L σ q l c x [v]) (hn : c + 1 ≤ 400) : CdR sx 6 16 yJ4_append_15ec4 cJ4_append_15ec4 2 (some (.object "java/lang/StringBuilder")) [aR q, aR x] L σ (fun r L' σ' => r = q ∧ STX L0 σ0 L' σ' q (l ++ [v]) (c + 1)) := by
  obtain ⟨h1, h2, h3, h4⟩ := h
  exact (cdS_append sx L0 L σ q _ l [v] h1 h3 (by simp only [List.length]; omega)).imp (fun r L' σ' hLE _ ⟨a, b, c9⟩ => ⟨a, h1.tr hLE, h2.tr LE.rf c9, b, by rw [List.length_append]; simp only [List.length]; omega⟩)
set_option maxRecDepth 100000 in
theorem cX_I (sx : Sx) (L0 : List Id4) (σ0 : Hp) (L : List Id4) (σ : Hp) (q : Id4) (l : List Int) (v : Int) (c : Nat) (h : STX L0 σ0 L σ q l c) (hv : 0 ≤ v ∧ v ≤ 99) (hn : c + 2 ≤ 400) : CdR sx 6 16 yJ4_append_bf812 cJ4_append_bf812 2 (some (.object "java/lang/StringBuilder")) [aR q, aI v] L σ (fun r L' σ' => r = q ∧ STX L0 σ0 L' σ' q (l ++ dgs v) (c + 2)) := by
  obtain ⟨h1, h2, h3, h4⟩ := h
  have hd : (dgs v).length ≤ 2 := by
    unfold dgs
    split <;> simp
  exact (cdI_append sx L0 L σ q l v h1 h3 hv (by omega)).imp (fun r L' σ' hLE _ ⟨a, b, c9⟩ => ⟨a, h1.tr hLE, h2.tr LE.rf c9, b, by rw [List.length_append]; omega⟩)
set_option maxRecDepth 100000 in
theorem cX_sub (sx : Sx) (L0 : List Id4) (σ0 : Hp) (L : List Id4) (σ : Hp) (q : Id4) (l : List Int) (x : Int) (c : Nat) (h : STX L0 σ0 L σ q l c) (hx : 0 ≤ x ∧ x ≤ 4) : CdR sx 5 17 yJ0_substring_37a41 cJ0_substring_37a41 5 (some (.object "java/lang/String")) [aR (20, 6, 0, 0), aI x, aI (x + 1)] L σ (fun r L' σ' => RDX L0 σ0 L' σ' q l c r [97 + x]) := by
  obtain ⟨h1, h2, h3, h4⟩ := h
  exact (cdT_sub sx L0 L σ q l x h1 h3 hx).imp (fun r L' σ' hLE _ ⟨a, b⟩ => ⟨h1.tr hLE, h2.tr LE.rf b, a, h4⟩)
set_option maxRecDepth 100000 in
theorem cX_toS (sx : Sx) (N L0 : List Id4) (σ0 : Hp) (L : List Id4) (σ : Hp) (q : Id4) (l : List Int) (c : Nat) (h : STX L0 σ0 L σ q l c) (hN : LE N L0) (hn : c ≤ 400) : CdR sx 6 17 yJ4_toString_0e30d cJ4_toString_0e30d 1 (some (.object "java/lang/String")) [aR q] L σ (fun r L' σ' => LE L0 L' ∧ KO L0 σ0 σ' ∧ STR N L' σ' r l) := by
  obtain ⟨h1, h2, h3, h4⟩ := h
  exact (cdT_toString sx N L0 L σ q l hN h1 h3 (by omega)).imp (fun r L' σ' hLE _ ⟨a, b⟩ => ⟨h1.tr hLE, h2.tr LE.rf b, a⟩)
abbrev Sp5 : Type := Int × Int × Int × Int × Int
def txP (per : Int) : List Int := kW 3 ++ dgs per ++ kW 4
def txE (e t : Int) : List Int := kW 5 ++ [97 + e] ++ kW 7 ++ dgs t ++ kW 4
def txEs (tm : Int → Int) : Nat → List Int
  | 0 => []
  | e + 1 => txEs tm e ++ txE (e : Int) (tm (e : Int))
def txS (x : Sp5) : List Int := kW 8 ++ [97 + x.1] ++ kW 7 ++ [97 + x.2.1] ++ kW 7 ++ dgs x.2.2.1 ++ kW 7 ++ dgs x.2.2.2.1 ++ kW 7 ++ dgs x.2.2.2.2 ++ kW 4
def txSs : List Sp5 → List Int
  | [] => []
  | x :: l => txS x ++ txSs l
theorem txSs_app (x : Sp5) : ∀ l : List Sp5, txSs (l ++ [x]) = txSs l ++ txS x
  | [] => by show txS x ++ [] = [] ++ txS x; rw [List.append_nil, List.nil_append]
  | y :: l => by
    show txS y ++ txSs (l ++ [x]) = (txS y ++ txSs l) ++ txS x
    rw [txSs_app x l, List.append_assoc]
theorem txEs_congr {f g : Int → Int} : ∀ n : Nat, (∀ j : Int, 0 ≤ j → j < n → f j = g j) → txEs f n = txEs g n
  | 0, _ => rfl
  | n + 1, h => by
    show txEs f n ++ txE n (f n) = txEs g n ++ txE n (g n)
    rw [txEs_congr n (fun j j0 j1 => h j j0 (by omega)), h n (by omega) (by omega)]
/-- a span as it is told -/
def spT (per E : Int) (x : Sp5) : Prop := (0 ≤ x.1 ∧ x.1 < E) ∧ (0 ≤ x.2.1 ∧ x.2.1 < E ∧ x.2.1 ≠ x.1) ∧ (0 ≤ x.2.2.1 ∧ x.2.2.1 ≤ 12) ∧ (x.2.2.1 ≤ x.2.2.2.1 ∧ x.2.2.2.1 ≤ x.2.2.1 + per - 1) ∧ (0 ≤ x.2.2.2.2 ∧ x.2.2.2.2 ≤ 5)
/-- between two statements of the text: the String so far, the times, the numbers of the law's object -/
def TV (L0 : List Id4) (σ0 : Hp) (L : List Id4) (σ : Hp) (c per E n : Int) (T t : Id4) (tm : Int → Int) (l : List Int) : Prop := (LE L0 L ∧ KP L0 (fun x => x = (9, 0, 0, 0)) σ0 σ ∧ (9, 0, 0, 0) ∈ L0) ∧ (σ.2 (9, 0, 0, 0) = σ0.2 (9, 0, 0, 0) ∧ (∀ k, 5 ≤ k → σ.1 (9, 0, 0, 0) k = σ0.1 (9, 0, 0, 0) k)) ∧ (0 ≤ σ.1 (9, 0, 0, 0) 1 ∧ σ.1 (9, 0, 0, 0) 1 ≤ c) ∧ (σ.1 (9, 0, 0, 0) 2 = per ∧ σ.1 (9, 0, 0, 0) 3 = E ∧ σ.1 (9, 0, 0, 0) 4 = n) ∧ (T ∈ L ∧ T ∉ L0 ∧ kd T = .inr (0, E.toNat) ∧ T.1 < 20 ∧ ∀ j, 0 ≤ j → j < E → σ.1 T j = tm j) ∧ STR L0 L σ t l
theorem STR.wk {N L : List Id4} {σ σ1 : Hp} {t q : Id4} {l : List Int} (h : STR N L σ t l) (hK : KP L (fun x => x = q) σ σ1) (h1 : kd q ≠ .inl 10) (h2 : ∀ n, kd q ≠ .inr (1, n)) : STR N L σ1 t l := by
  obtain ⟨sq, a, b, c⟩ := h
  obtain ⟨a1, a2⟩ := a.kp LE.rf hK (fun z => h1 (z ▸ isS_kd a.1)) (fun z => h2 _ (z ▸ a.2.2.2.1))
  exact ⟨sq, a1, fun j hj => by rw [a2]; exact b j hj, c⟩
theorem kp_upd {L : List Id4} {M : Id4 → Int → Int} {R : Id4 → Int → Option Id4} {q : Id4} {k v : Int} : KP L (fun x => x = q) (M, R) (updM M q k v, R) := fun x _ hn => ⟨updM_ne hn, rfl⟩
section TVS
variable {L0 L : List Id4} {σ0 : Hp} {M : Id4 → Int → Int} {R : Id4 → Int → Option Id4} {c per E n : Int} {T t : Id4} {tm : Int → Int} {l : List Int}
theorem TV.w {σ : Hp} (h : TV L0 σ0 L σ c per E n T t tm l) : (9, 0, 0, 0) ∈ L := h.1.1 _ h.1.2.2
theorem TV.ne {σ : Hp} (h : TV L0 σ0 L σ c per E n T t tm l) : T ≠ (9, 0, 0, 0) := fun z => h.2.2.2.2.1.2.1 (z ▸ h.1.2.2)
theorem TV.ch (h : TV L0 σ0 L (M, R) c per E n T t tm l) : TV L0 σ0 L (updM M (9, 0, 0, 0) 1 (M (9, 0, 0, 0) 1 + 1), R) (c + 1) per E n T t tm l := by
  have hne := h.ne
  obtain ⟨⟨a1, a2, a3⟩, ⟨b1, b2⟩, d, ⟨e1, e2, e3⟩, ⟨f1, f2, f3, f4, f5⟩, g⟩ := h
  have o : ∀ k, k ≠ 1 → updM M (9, 0, 0, 0) 1 (M (9, 0, 0, 0) 1 + 1) (9, 0, 0, 0) k = M (9, 0, 0, 0) k := fun k hk => upd_ne (Or.inr hk)
  refine ⟨⟨a1, a2.tr LE.rf (fun _ _ z => z) (kp_upd.wk (fun _ _ z => z)), a3⟩, ⟨b1, fun k hk => (o k (by omega)).trans (b2 k hk)⟩, ?_, ⟨(o 2 (by decide)).trans e1, (o 3 (by decide)).trans e2, (o 4 (by decide)).trans e3⟩, ⟨f1, f2, f3, f4, fun j j0 j1 => ?_⟩, g.wk kp_upd (by decide) (fun n z => by cases z)⟩
  · show 0 ≤ updM M (9, 0, 0, 0) 1 (M (9, 0, 0, 0) 1 + 1) (9, 0, 0, 0) 1 ∧ updM M (9, 0, 0, 0) 1 (M (9, 0, 0, 0) 1 + 1) (9, 0, 0, 0) 1 ≤ c + 1
    rw [upd_same]
    dsimp only at d
    omega
  · show updM M (9, 0, 0, 0) 1 (M (9, 0, 0, 0) 1 + 1) T j = tm j
    rw [updM_ne hne]
    exact f5 j j0 j1
theorem TV.p4 {v : Int} (h : TV L0 σ0 L (M, R) c per E n T t tm l) : TV L0 σ0 L (updM M (9, 0, 0, 0) 4 v, R) c per E v T t tm l := by
  have hne := h.ne
  obtain ⟨⟨a1, a2, a3⟩, ⟨b1, b2⟩, d, ⟨e1, e2, e3⟩, ⟨f1, f2, f3, f4, f5⟩, g⟩ := h
  have o : ∀ k, k ≠ 4 → updM M (9, 0, 0, 0) 4 v (9, 0, 0, 0) k = M (9, 0, 0, 0) k := fun k hk => upd_ne (Or.inr hk)
  refine ⟨⟨a1, a2.tr LE.rf (fun _ _ z => z) (kp_upd.wk (fun _ _ z => z)), a3⟩, ⟨b1, fun k hk => (o k (by omega)).trans (b2 k hk)⟩, ?_, ⟨(o 2 (by decide)).trans e1, (o 3 (by decide)).trans e2, (upd_same : updM M (9, 0, 0, 0) 4 v (9, 0, 0, 0) 4 = v)⟩, ⟨f1, f2, f3, f4, fun j j0 j1 => ?_⟩, g.wk kp_upd (by decide) (fun n z => by cases z)⟩
  · show 0 ≤ updM M (9, 0, 0, 0) 4 v (9, 0, 0, 0) 1 ∧ updM M (9, 0, 0, 0) 4 v (9, 0, 0, 0) 1 ≤ c
    rw [o 1 (by decide)]
    exact d
  · show updM M (9, 0, 0, 0) 4 v T j = tm j
    rw [updM_ne hne]
    exact f5 j j0 j1
theorem TV.st {e v : Int} (h : TV L0 σ0 L (M, R) c per E n T t tm l) : TV L0 σ0 L (updM M T e v, R) c per E n T t (upS tm e v) l := by
  have hne := h.ne
  obtain ⟨⟨a1, a2, a3⟩, ⟨b1, b2⟩, d, ⟨e1, e2, e3⟩, ⟨f1, f2, f3, f4, f5⟩, g⟩ := h
  have o : updM M T e v (9, 0, 0, 0) = M (9, 0, 0, 0) := updM_ne hne.symm
  refine ⟨⟨a1, a2.tr LE.rf (fun _ _ z => z) (fun x hx _ => ⟨updM_ne (fun z => ?_), rfl⟩), a3⟩, ⟨b1, fun k hk => (congrFun o k).trans (b2 k hk)⟩, ?_, ⟨(congrFun o 2).trans e1, (congrFun o 3).trans e2, (congrFun o 4).trans e3⟩, ⟨f1, f2, f3, f4, fun j j0 j1 => ?_⟩, g.wk kp_upd (by rw [f3]; intro z; cases z) (fun n z => by rw [f3] at z; cases z)⟩
  · rcases hx with y | y
    · exact f2 (z ▸ y)
    · rw [z] at y; omega
  · show 0 ≤ updM M T e v (9, 0, 0, 0) 1 ∧ updM M T e v (9, 0, 0, 0) 1 ≤ c
    rw [o]
    exact d
  · show updM M T e v T j = upS tm e v j
    by_cases z : j = e
    · rw [z, upd_same, upS_same]
    · rw [upd_ne (Or.inr z), upS_ne z]
      exact f5 j j0 j1
theorem TV.ko {σ σ' : Hp} {L' : List Id4} {r : Id4} {l' : List Int} (h : TV L0 σ0 L σ c per E n T t tm l) (hL : LE L L') (hK : KO L σ σ') (hs : STR L0 L' σ' r l') : TV L0 σ0 L' σ' c per E n T r tm l' := by
  have hw := h.w
  obtain ⟨⟨a1, a2, a3⟩, ⟨b1, b2⟩, d, ⟨e1, e2, e3⟩, ⟨f1, f2, f3, f4, f5⟩, g⟩ := h
  obtain ⟨o, o2⟩ := hK _ (Or.inl hw) (fun z => z)
  obtain ⟨p, -⟩ := hK _ (Or.inl f1) (fun z => z)
  exact ⟨⟨a1.tr hL, a2.tr a1 (fun _ _ z => z.elim) hK, a3⟩, ⟨o2.trans b1, fun k hk => (congrFun o k).trans (b2 k hk)⟩, by rw [o]; exact d, ⟨(congrFun o 2).trans e1, (congrFun o 3).trans e2, (congrFun o 4).trans e3⟩, ⟨hL _ f1, f2, f3, f4, fun j j0 j1 => (congrFun p j).trans (f5 j j0 j1)⟩, hs⟩
end TVS
theorem dgs_le {v : Int} : (dgs v).length ≤ 2 := by
  unfold dgs
  split <;> simp
theorem kW_len : (kW 3).length = 7 ∧ (kW 4).length = 1 ∧ (kW 5).length = 6 ∧ (kW 7).length = 1 ∧ (kW 8).length = 5 := by decide +kernel
theorem txP_len {per : Int} : (txP per).length ≤ 10 := by
  have := dgs_le (v := per)
  have := kW_len
  unfold txP
  rw [List.length_append, List.length_append]
  omega
theorem txE_len {e t : Int} : (txE e t).length ≤ 11 := by
  have := dgs_le (v := t)
  have := kW_len
  unfold txE
  simp only [List.length_append, List.length]
  omega
theorem txS_len (x : Sp5) : (txS x).length ≤ 18 := by
  have := dgs_le (v := x.2.2.1)
  have := dgs_le (v := x.2.2.2.1)
  have := dgs_le (v := x.2.2.2.2)
  have := kW_len
  unfold txS
  simp only [List.length_append, List.length]
  omega
/-- a choice made while the text is in the builder -/
theorem CHX {L0 L L1 : List Id4} {σ0 : Hp} {M1 M : Id4 → Int → Int} {R1 R : Id4 → Int → Option Id4} {c per E n : Int} {T t q : Id4} {tm : Int → Int} {l l2 : List Int} {c2 : Nat} (hV : TV L0 σ0 L1 (M1, R1) c per E n T t tm l) (h : STX L1 (M1, R1) L (M, R) q l2 c2) : STX L1 (updM M1 (9, 0, 0, 0) 1 (M1 (9, 0, 0, 0) 1 + 1), R1) L (updM M (9, 0, 0, 0) 1 (M (9, 0, 0, 0) 1 + 1), R) q l2 c2 := by
  have hw := hV.w
  obtain ⟨h1, h2, ⟨bq, m, ⟨a, b, c, d, e, f, g, i, j, k⟩, h3, h4, h5⟩, h6⟩ := h
  obtain ⟨w1, w2⟩ := h2 _ (Or.inl hw) (fun z => z)
  have hq : q ≠ (9, 0, 0, 0) := fun z => h3 (z ▸ hw)
  have hbq : bq ≠ (9, 0, 0, 0) := fun z => h4 (z ▸ hw)
  refine ⟨h1, fun x hx _ => ⟨?_, (h2 x hx (fun z => z)).2⟩, ⟨bq, m, ⟨a, b, ?_, d, e, f, g, ?_, j, fun j9 j0 j1 => ?_⟩, h3, h4, fun j9 hj => ?_⟩, h6⟩
  · by_cases z : x = (9, 0, 0, 0)
    · rw [z]
      show updM M (9, 0, 0, 0) 1 (M (9, 0, 0, 0) 1 + 1) (9, 0, 0, 0) = updM M1 (9, 0, 0, 0) 1 (M1 (9, 0, 0, 0) 1 + 1) (9, 0, 0, 0)
      funext k9
      have w3 : M (9, 0, 0, 0) = M1 (9, 0, 0, 0) := w1
      by_cases y : k9 = 1
      · rw [y, upd_same, upd_same, w3]
      · rw [upd_ne (Or.inr y), upd_ne (Or.inr y), w3]
    · show updM M (9, 0, 0, 0) 1 (M (9, 0, 0, 0) 1 + 1) x = updM M1 (9, 0, 0, 0) 1 (M1 (9, 0, 0, 0) 1 + 1) x
      rw [updM_ne z, updM_ne z]
      exact (h2 x hx (fun z => z)).1
  · show updM M (9, 0, 0, 0) 1 (M (9, 0, 0, 0) 1 + 1) q 1 = 0
    rw [updM_ne hq]; exact c
  · show updM M (9, 0, 0, 0) 1 (M (9, 0, 0, 0) 1 + 1) q 3 = _
    rw [updM_ne hq]; exact i
  · show 0 ≤ updM M (9, 0, 0, 0) 1 (M (9, 0, 0, 0) 1 + 1) bq j9 ∧ updM M (9, 0, 0, 0) 1 (M (9, 0, 0, 0) 1 + 1) bq j9 ≤ 127
    rw [updM_ne hbq]; exact k j9 j0 j1
  · show updM M (9, 0, 0, 0) 1 (M (9, 0, 0, 0) 1 + 1) bq j9 = _
    rw [updM_ne hbq]; exact h5 j9 hj
theorem tm_E {x E : Int} (h : 0 ≤ x ∧ x < 2 * E) : x.tmod E = if x < E then x else x - E := by
  by_cases z : x < E
  · rw [if_pos z, Int.tmod_eq_emod_of_nonneg h.1, Int.emod_eq_of_lt h.1 z]
  · rw [if_neg z, Int.tmod_eq_emod_of_nonneg h.1]
    have e := Int.sub_emod_right x E
    rw [← e, Int.emod_eq_of_lt (by omega) (by omega)]
theorem tm_bd {x E : Int} (h : 0 ≤ x) (hE : 0 < E) : 0 ≤ x.tmod E ∧ x.tmod E < E := ⟨Int.tmod_nonneg E h, Int.tmod_lt_of_pos x hE⟩
def TXQ (L : List Id4) (σ : Hp) (r : Id4) (L' : List Id4) (σ' : Hp) : Prop := ∃ (per E : Int) (tm : Int → Int) (l : List Sp5) (T : Id4), (2 ≤ per ∧ per ≤ 6) ∧ (2 ≤ E ∧ E ≤ 5) ∧ (∀ j, 0 ≤ j → j < E → 0 ≤ tm j ∧ tm j < per) ∧ l.length ≤ 7 ∧ (∀ x ∈ l, spT per E x) ∧ TV L σ L' σ' 100 per E l.length T r tm (txP per ++ txEs tm E.toNat ++ txSs l)
set_option maxRecDepth 100000 in
theorem cdL_text (sx : Sx) (L : List Id4) (M : Id4 → Int → Int) (Rf : Id4 → Int → Option Id4) (hm : (9, 0, 0, 0) ∈ L) (hr : Rf (9, 0, 0, 0) 0 = some (30, 0, 0, 0)) (ha : M (9, 0, 0, 0) 1 = 0) : CdR sx 7 3000 yL_text cL_text 9 (some (.object "java/lang/String")) [aR (9, 0, 0, 0), aI 6] L (M, Rf) (TXQ L (M, Rf)) := by
  refine CdR.mk (by decide +kernel) rfl (Nat.le_of_ble_eq_true rfl) (fun X G ρ F hk hsx => ?_)
  subst hsx
  have fin : ∀ (per E : Int) (T t : Id4) (tm : Int → Int) (l : List Sp5) (L1 : List Id4) (M1 : Id4 → Int → Int) (R1 : Id4 → Int → Option Id4) (u : Nat) (k : Int) (a5 a6 a7 a8 : AV), u ≤ 3000 → (2 ≤ per ∧ per ≤ 6) → (2 ≤ E ∧ E ≤ 5) → (∀ j, 0 ≤ j → j < E → 0 ≤ tm j ∧ tm j < per) → l.length ≤ 7 → (∀ x ∈ l, spT per E x) → k = l.length → TV L (M, Rf) L1 (M1, R1) 100 per E l.length T t tm (txP per ++ txEs tm E.toNat ++ txSs l) → DW X G ρ L L1 149 [aR (9, 0, 0, 0), aI 6, aR t, aR T, aI k, a5, a6, a7, a8] [] (M1, R1) u (ERd X G ρ L 3000 (TXQ L (M, Rf))) := by
    intro per E T t tm l L1 M1 R1 u k a5 a6 a7 a8 hu hp hE htm hl hsp hk9 hV
    have hw := hV.w
    have g4 : M1 (9, 0, 0, 0) 4 = l.length := hV.2.2.2.1.2.2
    have gt : inK L1 t := by
      obtain ⟨sq, a, -⟩ := hV.2.2.2.2.2
      exact a.1.elim (fun z => Or.inl z.1) (fun ⟨i, _, z⟩ => Or.inr (by rw [z]; exact Nat.le_refl 20))
    refine dw_iload4 (pc := 149) F dL_text_149 ?_
    refine dw_aload0 (pc := 151) F dL_text_151 ?_
    refine dw_getI (pc := 152) F dL_text_152 fl_L_95 (by first | assumption | rfl) (by first | assumption | (simp [*]; done)) rfl nz4 ?_
    rw [g4]
    refine dw_icmp_ge (tgt := 367) (pc := 155) F dL_text_155 (by decide) (by unfold inR; omega) (by unfold inR; omega) (fun c155 => ?_) (fun c155 => absurd c155 (by omega))
    refine dw_aload2 (pc := 367) F dL_text_367 ?_
    exact dw_aret (pc := 368) F dL_text_368 (Or.inl ⟨_, rfl⟩) (by omega) ⟨per, E, tm, l, T, hp, hE, htm, hl, hsp, hV⟩
  have loopS : ∀ (per E N : Int) (T : Id4) (tm : Int → Int), (2 ≤ per ∧ per ≤ 6) → (2 ≤ E ∧ E ≤ 5) → (∀ j, 0 ≤ j → j < E → 0 ≤ tm j ∧ tm j < per) → N ≤ 7 → ∀ (f : Nat) (l : List Sp5) (t : Id4) (L1 : List Id4) (M1 : Id4 → Int → Int) (R1 : Id4 → Int → Option Id4) (u : Nat) (k : Int) (a5 a6 a7 a8 : AV), wide a5 = false → wide a6 = false → wide a7 = false → wide a8 = false → u + 300 * f ≤ 3000 → (∀ x ∈ l, spT per E x) → k = l.length → (f : Int) + l.length = N → (txP per ++ txEs tm E.toNat ++ txSs l).length ≤ 100 + 18 * l.length → TV L (M, Rf) L1 (M1, R1) (20 + 8 * l.length) per E N T t tm (txP per ++ txEs tm E.toNat ++ txSs l) → DW X G ρ L L1 149 [aR (9, 0, 0, 0), aI 6, aR t, aR T, aI k, a5, a6, a7, a8] [] (M1, R1) u (ERd X G ρ L 3000 (TXQ L (M, Rf))) := by
    intro per E N T tm hp hE htm hN f
    induction f with
    | zero =>
      intro l t L1 M1 R1 u k a5 a6 a7 a8 w5 w6 w7 w8 hu hsp hk9 hf hlen hV
      refine fin per E T t tm l L1 M1 R1 u k a5 a6 a7 a8 (by omega) hp hE htm (by omega) hsp hk9 ?_
      rw [show (l.length : Int) = N by omega]
      obtain ⟨a, b, c, d⟩ := hV
      exact ⟨a, b, ⟨c.1, by omega⟩, d⟩
    | succ f ih =>
      intro l t L1 M1 R1 u k a5 a6 a7 a8 w5 w6 w7 w8 hu hsp hk9 hf hlen hV
      have hw := hV.w
      have hVR : R1 (9, 0, 0, 0) 0 = some (30, 0, 0, 0) := (congrFun hV.2.1.1 0).trans hr
      have g4 : M1 (9, 0, 0, 0) 4 = N := hV.2.2.2.1.2.2
      have g3 : M1 (9, 0, 0, 0) 3 = E := hV.2.2.2.1.2.1
      have gT := hV.2.2.2.2.1.1
      have gk := hV.2.2.2.2.1.2.2.1
      have gTE : ((E.toNat : Nat) : Int) = E := by omega
      have g5 : ∀ j, 0 ≤ j → j < E → M1 T j = tm j := hV.2.2.2.2.1.2.2.2.2
      have hb : ∀ L2 (s2 : Hp) (c2 : Int) (t2 : Id4) (l2 : List Int), TV L (M, Rf) L2 s2 c2 per E N T t2 tm l2 → c2 ≤ 90 → (0 ≤ s2.1 (9, 0, 0, 0) 1 ∧ s2.1 (9, 0, 0, 0) 1 ≤ 100000) := fun L2 s2 c2 t2 l2 h h2 => by have := h.2.2.1; omega
      have hV0 := hV
      have keyB : ∀ (a b lo wd : Int) (L1 : List Id4) (M1 : Id4 → Int → Int) (R1 : Id4 → Int → Option Id4) (c : Int) (u : Nat), u + 300 * (f + 1) ≤ 3000 → c ≤ 27 + 8 * l.length → (0 ≤ a ∧ a < E) → (0 ≤ b ∧ b < E ∧ b ≠ a) → (0 ≤ lo ∧ lo ≤ 12) → (0 ≤ wd ∧ wd < per) → TV L (M, Rf) L1 (M1, R1) c per E N T t tm (txP per ++ txEs tm E.toNat ++ txSs l) → DW X G ρ L L1 266 [aR (9, 0, 0, 0), aI 6, aR t, aR T, aI k, aI a, aI b, aI lo, aI wd] [] (M1, R1) u (ERd X G ρ L 3000 (TXQ L (M, Rf))) := by
        intro a b lo wd L1 M1 R1 c u hu hc ha9 hb9 hlo hwd hV
        have hw := hV.w
        have hS0 := hV.2.2.2.2.2
        have hVR : R1 (9, 0, 0, 0) 0 = some (30, 0, 0, 0) := (congrFun hV.2.1.1 0).trans hr
        have c1 := hb _ _ _ _ _ hV (by omega)
        refine dw_DI F (fun hI9 _ _ _ => ?_)
        have hf9 := hI9.fresh (t := 11) (c := 0) (r := 0) (by decide)
        refine dw_new (t := 11) (w := 1) F (by decide) dL_text_266 nc_11 cl_L_67 ni_11 df_11 (fun _ => rfl) (by decide) (by omega) ?_
        refine dw_dupR (pc := 269) F dL_text_269 ?_
        refine dw_callNV (as := []) (pc := 270) F dL_text_270 ml_L_69 (cX_init _ _ _ _ hf9) (Nat.le_of_ble_eq_true rfl) (by decide) (by omega) (fun L9 s9 h9 hLE9 => ?_)
        have hX := h9
        obtain ⟨M9, R9⟩ := s9
        have hw9 := hX.1 _ hw
        refine dw_aload2 (pc := 273) F dL_text_273 ?_
        refine dw_callVR (as := [_]) (pc := 274) F dL_text_274 ml_L_72 (by first | assumption | rfl) (Or.inl hX.mem) (cX_T _ _ _ _ _ _ _ _ _ _ _ 230 hX hS0 (by omega) (by omega)) (Nat.le_of_ble_eq_true rfl) (by decide) (by omega) (fun r9 L9 s9 h9 hLE9 hin9 => ?_)
        obtain ⟨rfl, hX⟩ := h9
        obtain ⟨M9, R9⟩ := s9
        have hw9 := hX.1 _ hw
        refine dw_ldcS (i := 8) (tx := "span ") (pc := 277) F dL_text_277 (by decide +kernel) ?_
        refine dw_callVR (as := [_]) (pc := 279) F dL_text_279 ml_L_72 (by first | assumption | rfl) (Or.inl hX.mem) (cX_K _ _ _ _ _ _ _ _ 8 5 (by decide) hX (by decide +kernel) (by omega)) (Nat.le_of_ble_eq_true rfl) (by decide) (by omega) (fun r9 L9 s9 h9 hLE9 hin9 => ?_)
        obtain ⟨rfl, hX⟩ := h9
        obtain ⟨M9, R9⟩ := s9
        have hw9 := hX.1 _ hw
        refine dw_ldcS (i := 6) (tx := "abcde") (pc := 282) F dL_text_282 (by decide +kernel) ?_
        refine dw_iload5 (pc := 284) F dL_text_284 ?_
        refine dw_iload5 (pc := 286) F dL_text_286 ?_
        refine dw_iconst (pc := 288) F dL_text_288 ?_
        refine dw_iadd (pc := 289) F dL_text_289 ?_
        refine dw_callVR (as := [_, _]) (pc := 290) F dL_text_290 ml_L_89 (by first | assumption | rfl) (Or.inr ⟨rfl, 6, by decide, rfl⟩) (cX_sub _ _ _ _ _ _ _ _ _ hX (by omega)) (Nat.le_of_ble_eq_true rfl) (by decide) (by omega) (fun r9 L9 s9 h9 hLE9 hin9 => ?_)
        have hX := h9
        obtain ⟨M9, R9⟩ := s9
        have hw9 := hX.1 _ hw
        refine dw_callVR (as := [_]) (pc := 293) F dL_text_293 ml_L_72 (by first | assumption | rfl) (Or.inl hX.mem) (cX_S _ _ _ _ _ _ _ _ _ _ hX (by omega)) (Nat.le_of_ble_eq_true rfl) (by decide) (by omega) (fun r9 L9 s9 h9 hLE9 hin9 => ?_)
        obtain ⟨rfl, hX⟩ := h9
        obtain ⟨M9, R9⟩ := s9
        have hw9 := hX.1 _ hw
        refine dw_ldcS (i := 7) (tx := " ") (pc := 296) F dL_text_296 (by decide +kernel) ?_
        refine dw_callVR (as := [_]) (pc := 298) F dL_text_298 ml_L_72 (by first | assumption | rfl) (Or.inl hX.mem) (cX_K _ _ _ _ _ _ _ _ 7 1 (by decide) hX (by decide +kernel) (by omega)) (Nat.le_of_ble_eq_true rfl) (by decide) (by omega) (fun r9 L9 s9 h9 hLE9 hin9 => ?_)
        obtain ⟨rfl, hX⟩ := h9
        obtain ⟨M9, R9⟩ := s9
        have hw9 := hX.1 _ hw
        refine dw_ldcS (i := 6) (tx := "abcde") (pc := 301) F dL_text_301 (by decide +kernel) ?_
        refine dw_iload6 (pc := 303) F dL_text_303 ?_
        refine dw_iload6 (pc := 305) F dL_text_305 ?_
        refine dw_iconst (pc := 307) F dL_text_307 ?_
        refine dw_iadd (pc := 308) F dL_text_308 ?_
        refine dw_callVR (as := [_, _]) (pc := 309) F dL_text_309 ml_L_89 (by first | assumption | rfl) (Or.inr ⟨rfl, 6, by decide, rfl⟩) (cX_sub _ _ _ _ _ _ _ _ _ hX (by omega)) (Nat.le_of_ble_eq_true rfl) (by decide) (by omega) (fun r9 L9 s9 h9 hLE9 hin9 => ?_)
        have hX := h9
        obtain ⟨M9, R9⟩ := s9
        have hw9 := hX.1 _ hw
        refine dw_callVR (as := [_]) (pc := 312) F dL_text_312 ml_L_72 (by first | assumption | rfl) (Or.inl hX.mem) (cX_S _ _ _ _ _ _ _ _ _ _ hX (by omega)) (Nat.le_of_ble_eq_true rfl) (by decide) (by omega) (fun r9 L9 s9 h9 hLE9 hin9 => ?_)
        obtain ⟨rfl, hX⟩ := h9
        obtain ⟨M9, R9⟩ := s9
        have hw9 := hX.1 _ hw
        refine dw_ldcS (i := 7) (tx := " ") (pc := 315) F dL_text_315 (by decide +kernel) ?_
        refine dw_callVR (as := [_]) (pc := 317) F dL_text_317 ml_L_72 (by first | assumption | rfl) (Or.inl hX.mem) (cX_K _ _ _ _ _ _ _ _ 7 1 (by decide) hX (by decide +kernel) (by omega)) (Nat.le_of_ble_eq_true rfl) (by decide) (by omega) (fun r9 L9 s9 h9 hLE9 hin9 => ?_)
        obtain ⟨rfl, hX⟩ := h9
        obtain ⟨M9, R9⟩ := s9
        have hw9 := hX.1 _ hw
        refine dw_iload7 (pc := 320) F dL_text_320 ?_
        refine dw_callVR (as := [_]) (pc := 322) F dL_text_322 ml_L_76 (by first | assumption | rfl) (Or.inl hX.mem) (cX_I _ _ _ _ _ _ _ _ _ hX (by omega) (by omega)) (Nat.le_of_ble_eq_true rfl) (by decide) (by omega) (fun r9 L9 s9 h9 hLE9 hin9 => ?_)
        obtain ⟨rfl, hX⟩ := h9
        obtain ⟨M9, R9⟩ := s9
        have hw9 := hX.1 _ hw
        refine dw_ldcS (i := 7) (tx := " ") (pc := 325) F dL_text_325 (by decide +kernel) ?_
        refine dw_callVR (as := [_]) (pc := 327) F dL_text_327 ml_L_72 (by first | assumption | rfl) (Or.inl hX.mem) (cX_K _ _ _ _ _ _ _ _ 7 1 (by decide) hX (by decide +kernel) (by omega)) (Nat.le_of_ble_eq_true rfl) (by decide) (by omega) (fun r9 L9 s9 h9 hLE9 hin9 => ?_)
        obtain ⟨rfl, hX⟩ := h9
        obtain ⟨M9, R9⟩ := s9
        have hw9 := hX.1 _ hw
        refine dw_iload7 (pc := 330) F dL_text_330 ?_
        refine dw_iload8 (pc := 332) F dL_text_332 ?_
        refine dw_iadd (pc := 334) F dL_text_334 ?_
        refine dw_callVR (as := [_]) (pc := 335) F dL_text_335 ml_L_76 (by first | assumption | rfl) (Or.inl hX.mem) (cX_I _ _ _ _ _ _ _ _ _ hX (by omega) (by omega)) (Nat.le_of_ble_eq_true rfl) (by decide) (by omega) (fun r9 L9 s9 h9 hLE9 hin9 => ?_)
        obtain ⟨rfl, hX⟩ := h9
        obtain ⟨M9, R9⟩ := s9
        have hw9 := hX.1 _ hw
        refine dw_ldcS (i := 7) (tx := " ") (pc := 338) F dL_text_338 (by decide +kernel) ?_
        refine dw_callVR (as := [_]) (pc := 340) F dL_text_340 ml_L_72 (by first | assumption | rfl) (Or.inl hX.mem) (cX_K _ _ _ _ _ _ _ _ 7 1 (by decide) hX (by decide +kernel) (by omega)) (Nat.le_of_ble_eq_true rfl) (by decide) (by omega) (fun r9 L9 s9 h9 hLE9 hin9 => ?_)
        obtain ⟨rfl, hX⟩ := h9
        obtain ⟨M9, R9⟩ := s9
        have hw9 := hX.1 _ hw
        obtain ⟨hA1, hA2, hA3, hA4⟩ := hX
        have hKw := hA2 _ (Or.inl hw) (fun z => z)
        refine dw_aload0 (pc := 343) F dL_text_343 ?_
        refine dw_bipush (pc := 344) F dL_text_344 (by decide) ?_
        refine dw_callVI (as := [_]) (pc := 346) F dL_text_346 ml_L_55 (by first | assumption | rfl) (by first | assumption | exact Or.inl (by first | assumption | (simp [*]; done))) (cdL_chosen _ _ _ _ _ (by assumption) ((congrFun hKw.2 0).trans hVR) (by rw [show M9 (9, 0, 0, 0) 1 = M1 (9, 0, 0, 0) 1 from congrFun hKw.1 1]; exact c1) (by omega)) (Nat.le_of_ble_eq_true rfl) (by decide) (by omega) (fun v9 L9 s9 h9 hLE9 => ?_)
        obtain ⟨hv9, rfl, rfl⟩ := h9
        have hX := CHX hV ⟨hA1, hA2, hA3, hA4⟩
        have hV := hV.ch
        refine dw_callVR (as := [_]) (pc := 349) F dL_text_349 ml_L_76 (by first | assumption | rfl) (Or.inl hX.mem) (cX_I _ _ _ _ _ _ _ _ _ hX (by omega) (by omega)) (Nat.le_of_ble_eq_true rfl) (by decide) (by omega) (fun r9 L9 s9 h9 hLE9 hin9 => ?_)
        obtain ⟨rfl, hX⟩ := h9
        obtain ⟨M9, R9⟩ := s9
        have hw9 := hX.1 _ hw
        refine dw_ldcS (i := 4) (tx := ";") (pc := 352) F dL_text_352 (by decide +kernel) ?_
        refine dw_callVR (as := [_]) (pc := 354) F dL_text_354 ml_L_72 (by first | assumption | rfl) (Or.inl hX.mem) (cX_K _ _ _ _ _ _ _ _ 4 1 (by decide) hX (by decide +kernel) (by omega)) (Nat.le_of_ble_eq_true rfl) (by decide) (by omega) (fun r9 L9 s9 h9 hLE9 hin9 => ?_)
        obtain ⟨rfl, hX⟩ := h9
        obtain ⟨M9, R9⟩ := s9
        have hw9 := hX.1 _ hw
        refine dw_callVR (as := []) (pc := 357) F dL_text_357 ml_L_81 (by first | assumption | rfl) (Or.inl hX.mem) (cX_toS _ _ _ _ _ _ _ _ _ hX hV.1.1 (by omega)) (Nat.le_of_ble_eq_true rfl) (by decide) (by omega) (fun r9 L9 s9 h9 hLE9 hin9 => ?_)
        obtain ⟨hL9, hK9, hS9⟩ := h9
        obtain ⟨M9, R9⟩ := s9
        have hV := hV.ko hL9 hK9 hS9
        refine dw_astore2 (pc := 360) F dL_text_360 rfl hk.symm ?_
        refine dw_iinc4 (pc := 361) F dL_text_361 rfl hk.symm ?_
        refine dw_goto (tgt := 149) (pc := 364) F dL_text_364 (by decide) ?_
        refine ih (l ++ [(a, b, lo, lo + wd, v9)]) _ _ _ _ _ _ _ _ _ _ rfl rfl rfl rfl (by omega) (fun x hx => ?_) (by rw [List.length_append]; simp only [List.length]; omega) (by rw [List.length_append]; simp only [List.length]; omega) ?_ ?_
        · rcases List.mem_append.mp hx with z | z
          · exact hsp x z
          · rw [List.mem_singleton.mp z]; exact ⟨ha9, hb9, hlo, by dsimp only; omega, by dsimp only; omega⟩
        · have e := txS_len (a, b, lo, lo + wd, v9)
          rw [txSs_app, ← List.append_assoc, List.length_append, List.length_append (as := l)]; simp only [List.length]; omega
        · rw [txSs_app]
          obtain ⟨p1, p2, p3, p4⟩ := hV
          refine ⟨p1, p2, ⟨p3.1, ?_⟩, ?_⟩
          · exact Int.le_trans p3.2 (by rw [List.length_append]; simp only [List.length]; omega)
          · unfold txS
            simpa only [List.nil_append, List.append_assoc] using p4
      have keyA : ∀ (a b lo wd : Int) (M1 : Id4 → Int → Int) (R1 : Id4 → Int → Option Id4) (c : Int), c ≤ 26 + 8 * l.length → (0 ≤ a ∧ a < E) → (0 ≤ b ∧ b < E ∧ b ≠ a) → (0 ≤ lo ∧ lo ≤ 12) → (0 ≤ wd ∧ wd < per) → TV L (M, Rf) L1 (M1, R1) c per E N T t tm (txP per ++ txEs tm E.toNat ++ txSs l) → DW X G ρ L L1 221 [aR (9, 0, 0, 0), aI 6, aR t, aR T, aI k, aI a, aI b, aI lo, aI wd] [] (M1, R1) u (ERd X G ρ L 3000 (TXQ L (M, Rf))) := by
        intro a b lo wd M1 R1 c hc ha9 hb9 hlo hwd hV
        have hw := hV.w
        have hVR : R1 (9, 0, 0, 0) 0 = some (30, 0, 0, 0) := (congrFun hV.2.1.1 0).trans hr
        have c1 := hb _ _ _ _ _ hV (by omega)
        have gT := hV.2.2.2.2.1.1
        have hV1 := hV.ch
        have g2 : updM M1 (9, 0, 0, 0) 1 (M1 (9, 0, 0, 0) 1 + 1) (9, 0, 0, 0) 2 = per := hV1.2.2.2.1.1
        have g5 : ∀ j, 0 ≤ j → j < E → updM M1 (9, 0, 0, 0) 1 (M1 (9, 0, 0, 0) 1 + 1) T j = tm j := hV1.2.2.2.2.1.2.2.2.2
        have ta := htm a ha9.1 ha9.2
        have tb := htm b hb9.1 hb9.2.1
        have tq := tm_bd (x := tm b - tm a + per) (E := per) (by omega) (by omega)
        refine dw_aload0 (pc := 221) F dL_text_221 ?_
        refine dw_iconst (pc := 222) F dL_text_222 ?_
        refine dw_callVI (as := [_]) (pc := 223) F dL_text_223 ml_L_55 (by first | assumption | rfl) (by first | assumption | exact Or.inl (by first | assumption | (simp [*]; done))) (cdL_chosen _ _ _ _ _ (by assumption) hVR c1 (by omega)) (Nat.le_of_ble_eq_true rfl) (by decide) (by omega) (fun v9 L9 s9 h9 hLE9 => ?_)
        obtain ⟨hv9, rfl, rfl⟩ := h9
        refine dw_if_le (tgt := 266) (pc := 226) F dL_text_226 (by decide) (by unfold inR; omega) (fun c226 => ?_) (fun c226 => ?_)
        · exact keyB a b _ wd L9 _ _ (c + 1) _ (by omega) (by omega) ha9 hb9 (by omega) hwd hV1
        · refine dw_aload3 (pc := 229) F dL_text_229 ?_
          refine dw_iload6 (pc := 230) F dL_text_230 ?_
          refine dw_iald (pc := 232) F dL_text_232 gk gT (by omega) (by omega) ?_
          rw [g5 b (by omega) (by omega)]
          refine dw_aload3 (pc := 233) F dL_text_233 ?_
          refine dw_iload5 (pc := 234) F dL_text_234 ?_
          refine dw_iald (pc := 236) F dL_text_236 gk gT (by omega) (by omega) ?_
          rw [g5 a (by omega) (by omega)]
          refine dw_isub (pc := 237) F dL_text_237 ?_
          refine dw_aload0 (pc := 238) F dL_text_238 ?_
          refine dw_getI (pc := 239) F dL_text_239 fl_L_61 (by first | assumption | rfl) (by first | assumption | (simp [*]; done)) rfl nz2 ?_
          rw [g2]
          refine dw_iadd (pc := 242) F dL_text_242 ?_
          refine dw_aload0 (pc := 243) F dL_text_243 ?_
          refine dw_getI (pc := 244) F dL_text_244 fl_L_61 (by first | assumption | rfl) (by first | assumption | (simp [*]; done)) rfl nz2 ?_
          rw [g2]
          refine dw_irem (pc := 247) F dL_text_247 (by unfold inR; omega) (by unfold inR; omega) (by omega) (by omega) ?_
          refine dw_iload7 (pc := 248) F dL_text_248 ?_
          refine dw_bipush (pc := 250) F dL_text_250 (by decide) ?_
          refine dw_icmp_le (tgt := 262) (pc := 252) F dL_text_252 (by decide) (by unfold inR; omega) (by unfold inR; omega) (fun c252 => ?_) (fun c252 => ?_)
          · refine dw_iconst (pc := 262) F dL_text_262 ?_
            refine dw_iadd (pc := 263) F dL_text_263 ?_
            refine dw_istore7 (pc := 264) F dL_text_264 rfl hk.symm ?_
            exact keyB a b _ wd L9 _ _ (c + 1) _ (by omega) (by omega) ha9 hb9 (by omega) hwd hV1
          · refine dw_aload0 (pc := 255) F dL_text_255 ?_
            refine dw_getI (pc := 256) F dL_text_256 fl_L_61 (by first | assumption | rfl) (by first | assumption | (simp [*]; done)) rfl nz2 ?_
            rw [g2]
            refine dw_goto (tgt := 263) (pc := 259) F dL_text_259 (by decide) ?_
            refine dw_iadd (pc := 263) F dL_text_263 ?_
            refine dw_istore7 (pc := 264) F dL_text_264 rfl hk.symm ?_
            exact keyB a b _ wd L9 _ _ (c + 1) _ (by omega) (by omega) ha9 hb9 (by omega) hwd hV1
      refine dw_iload4 (pc := 149) F dL_text_149 ?_
      refine dw_aload0 (pc := 151) F dL_text_151 ?_
      refine dw_getI (pc := 152) F dL_text_152 fl_L_95 (by first | assumption | rfl) (by first | assumption | (simp [*]; done)) rfl nz4 ?_
      rw [g4]
      refine dw_icmp_ge (tgt := 367) (pc := 155) F dL_text_155 (by decide) (by unfold inR; omega) (by unfold inR; omega) (fun c155 => absurd c155 (by omega)) (fun c155 => ?_)
      have k1 := hV
      refine dw_aload0 (pc := 158) F dL_text_158 ?_
      refine dw_aload0 (pc := 159) F dL_text_159 ?_
      refine dw_getI (pc := 160) F dL_text_160 fl_L_64 (by first | assumption | rfl) (by first | assumption | (simp [*]; done)) rfl nz3 ?_
      rw [g3]
      refine dw_callVI (as := [_]) (pc := 163) F dL_text_163 ml_L_55 (by first | assumption | rfl) (by first | assumption | exact Or.inl (by first | assumption | (simp [*]; done))) (cdL_chosen _ _ _ _ _ (by assumption) hVR (hb _ _ _ _ _ k1 (by omega)) (by omega)) (Nat.le_of_ble_eq_true rfl) (by decide) (by omega) (fun v1 L9 s9 h9 hLE9 => ?_)
      obtain ⟨hv1, rfl, rfl⟩ := h9
      have k2 := k1.ch
      refine dw_istore5 (pc := 166) F dL_text_166 (by simp only [List.all_cons, List.all_nil, w5, w6, w7, w8]; rfl) hk.symm ?_
      refine dw_iload5 (pc := 168) F dL_text_168 ?_
      refine dw_iconst (pc := 170) F dL_text_170 ?_
      refine dw_iadd (pc := 171) F dL_text_171 ?_
      refine dw_aload0 (pc := 172) F dL_text_172 ?_
      refine dw_aload0 (pc := 173) F dL_text_173 ?_
      refine dw_getI (pc := 174) F dL_text_174 fl_L_64 (by first | assumption | rfl) (by first | assumption | (simp [*]; done)) rfl nz3 ?_
      rw [show updM M1 (9, 0, 0, 0) 1 (M1 (9, 0, 0, 0) 1 + 1) (9, 0, 0, 0) 3 = E from k2.2.2.2.1.2.1]
      refine dw_iconst (pc := 177) F dL_text_177 ?_
      refine dw_isub (pc := 178) F dL_text_178 ?_
      refine dw_callVI (as := [_]) (pc := 179) F dL_text_179 ml_L_55 (by first | assumption | rfl) (by first | assumption | exact Or.inl (by first | assumption | (simp [*]; done))) (cdL_chosen _ _ _ _ _ (by assumption) hVR (hb _ _ _ _ _ k2 (by omega)) (by omega)) (Nat.le_of_ble_eq_true rfl) (by decide) (by omega) (fun v2 L9 s9 h9 hLE9 => ?_)
      obtain ⟨hv2, rfl, rfl⟩ := h9
      have k3 := k2.ch
      refine dw_iadd (pc := 182) F dL_text_182 ?_
      refine dw_aload0 (pc := 183) F dL_text_183 ?_
      refine dw_getI (pc := 184) F dL_text_184 fl_L_64 (by first | assumption | rfl) (by first | assumption | (simp [*]; done)) rfl nz3 ?_
      have e8 := k3.2.2.2.1.2.1
      dsimp only at e8
      rw [e8]
      have e9 := tm_E (x := v1 + 1 + v2) (E := E) (by omega)
      have hb9 : 0 ≤ (v1 + 1 + v2).tmod E ∧ (v1 + 1 + v2).tmod E < E ∧ (v1 + 1 + v2).tmod E ≠ v1 := by rw [e9]; split <;> omega
      refine dw_irem (pc := 187) F dL_text_187 (by unfold inR; omega) (by unfold inR; omega) (by omega) (by omega) ?_
      refine dw_istore6 (pc := 188) F dL_text_188 (by simp only [List.all_cons, List.all_nil, w5, w6, w7, w8]; rfl) hk.symm ?_
      refine dw_aload0 (pc := 190) F dL_text_190 ?_
      refine dw_iconst (pc := 191) F dL_text_191 ?_
      refine dw_bipush (pc := 192) F dL_text_192 (by decide) ?_
      refine dw_callVI (as := [_, _]) (pc := 194) F dL_text_194 ml_L_58 (by first | assumption | rfl) (by first | assumption | exact Or.inl (by first | assumption | (simp [*]; done))) (cdL_from _ _ _ _ _ _ (by assumption) hVR (hb _ _ _ _ _ k3 (by omega)) (by omega)) (Nat.le_of_ble_eq_true rfl) (by decide) (by omega) (fun v3 L9 s9 h9 hLE9 => ?_)
      obtain ⟨hv3, rfl, rfl⟩ := h9
      have k4 := k3.ch
      refine dw_istore7 (pc := 197) F dL_text_197 (by simp only [List.all_cons, List.all_nil, w5, w6, w7, w8]; rfl) hk.symm ?_
      refine dw_aload0 (pc := 199) F dL_text_199 ?_
      refine dw_iconst (pc := 200) F dL_text_200 ?_
      refine dw_callVI (as := [_]) (pc := 201) F dL_text_201 ml_L_55 (by first | assumption | rfl) (by first | assumption | exact Or.inl (by first | assumption | (simp [*]; done))) (cdL_chosen _ _ _ _ _ (by assumption) hVR (hb _ _ _ _ _ k4 (by omega)) (by omega)) (Nat.le_of_ble_eq_true rfl) (by decide) (by omega) (fun v4 L9 s9 h9 hLE9 => ?_)
      obtain ⟨hv4, rfl, rfl⟩ := h9
      have k5 := k4.ch
      refine dw_if_ne (tgt := 211) (pc := 204) F dL_text_204 (by decide) (by unfold inR; omega) (fun c204 => ?_) (fun c204 => ?_)
      · refine dw_aload0 (pc := 211) F dL_text_211 ?_
        refine dw_aload0 (pc := 212) F dL_text_212 ?_
        refine dw_getI (pc := 213) F dL_text_213 fl_L_61 (by first | assumption | rfl) (by first | assumption | (simp [*]; done)) rfl nz2 ?_
        have e8 := k5.2.2.2.1.1
        dsimp only at e8
        rw [e8]
        refine dw_callVI (as := [_]) (pc := 216) F dL_text_216 ml_L_55 (by first | assumption | rfl) (by first | assumption | exact Or.inl (by first | assumption | (simp [*]; done))) (cdL_chosen _ _ _ _ _ (by assumption) hVR (hb _ _ _ _ _ k5 (by omega)) (by omega)) (Nat.le_of_ble_eq_true rfl) (by decide) (by omega) (fun v5 L9 s9 h9 hLE9 => ?_)
        obtain ⟨hv5, rfl, rfl⟩ := h9
        have k6 := k5.ch
        refine dw_istore8 (pc := 219) F dL_text_219 (by simp only [List.all_cons, List.all_nil, w5, w6, w7, w8]; rfl) hk.symm ?_
        first | exact keyA v1 _ v3 _ _ _ _ (by omega) hv1 hb9 hv3 (by omega) k6 | exact keyA v1 _ v3 _ _ _ _ (by omega) hv1 hb9 hv3 (by omega) k5
      · refine dw_iconst (pc := 207) F dL_text_207 ?_
        refine dw_goto (tgt := 219) (pc := 208) F dL_text_208 (by decide) ?_
        refine dw_istore8 (pc := 219) F dL_text_219 (by simp only [List.all_cons, List.all_nil, w5, w6, w7, w8]; rfl) hk.symm ?_
        first | exact keyA v1 _ v3 _ _ _ _ (by omega) hv1 hb9 hv3 (by omega) k6 | exact keyA v1 _ v3 _ _ _ _ (by omega) hv1 hb9 hv3 (by omega) k5
  have loopE : ∀ (per E : Int) (T : Id4), (2 ≤ per ∧ per ≤ 6) → (2 ≤ E ∧ E ≤ 5) → ∀ (f : Nat) (e : Nat) (tm : Int → Int) (t : Id4) (L1 : List Id4) (M1 : Id4 → Int → Int) (R1 : Id4 → Int → Option Id4) (u : Nat), u ≤ 150 + 140 * e → (f : Int) + e = E → (∀ j : Int, 0 ≤ j → j < e → 0 ≤ tm j ∧ tm j < per) → (txP per ++ txEs tm e).length ≤ 12 + 12 * e → TV L (M, Rf) L1 (M1, R1) (3 + e) per E (M (9, 0, 0, 0) 4) T t tm (txP per ++ txEs tm e) → DW X G ρ L L1 58 [aR (9, 0, 0, 0), aI 6, aR t, aR T, aI e, aX, aX, aX, aX] [] (M1, R1) u (ERd X G ρ L 3000 (TXQ L (M, Rf))) := by
    intro per E T hp hE f
    induction f with
    | zero =>
      intro e tm t L1 M1 R1 u hu hf htm hlen hV
      have hw := hV.w
      have hVR : R1 (9, 0, 0, 0) 0 = some (30, 0, 0, 0) := (congrFun hV.2.1.1 0).trans hr
      have g3 : M1 (9, 0, 0, 0) 3 = E := hV.2.2.2.1.2.1
      have c1 : 0 ≤ M1 (9, 0, 0, 0) 1 ∧ M1 (9, 0, 0, 0) 1 ≤ 100000 := by have := hV.2.2.1; dsimp only at this; omega
      refine dw_iload4 (pc := 58) F dL_text_58 ?_
      refine dw_aload0 (pc := 60) F dL_text_60 ?_
      refine dw_getI (pc := 61) F dL_text_61 fl_L_64 (by first | assumption | rfl) (by first | assumption | (simp [*]; done)) rfl nz3 ?_
      rw [g3]
      refine dw_icmp_ge (tgt := 136) (pc := 64) F dL_text_64 (by decide) (by unfold inR; omega) (by unfold inR; omega) (fun c64 => ?_) (fun c64 => absurd c64 (by omega))
      refine dw_aload0 (pc := 136) F dL_text_136 ?_
      refine dw_aload0 (pc := 137) F dL_text_137 ?_
      refine dw_bipush (pc := 138) F dL_text_138 (by decide) ?_
      refine dw_callVI (as := [_]) (pc := 140) F dL_text_140 ml_L_55 (by first | assumption | rfl) (by first | assumption | exact Or.inl (by first | assumption | (simp [*]; done))) (cdL_chosen _ _ _ _ _ (by assumption) hVR c1 (by omega)) (Nat.le_of_ble_eq_true rfl) (by decide) (by omega) (fun v9 L9 s9 h9 hLE9 => ?_)
      obtain ⟨hv9, rfl, rfl⟩ := h9
      refine dw_putI (pc := 143) F dL_text_143 fl_L_95 pg_9_4 (by first | assumption | rfl) (by first | assumption | (simp [*]; done)) rfl nz4 ?_
      refine dw_iconst (pc := 146) F dL_text_146 ?_
      refine dw_istore4 (pc := 147) F dL_text_147 rfl hk.symm ?_
      have hV9 := hV.ch.p4 (v := v9)
      rw [show e = E.toNat by omega] at hV9 hlen
      refine loopS per E v9 T tm hp hE (fun j j0 j1 => htm j j0 (by omega)) (by omega) v9.toNat [] t _ _ _ _ _ _ _ _ _ rfl rfl rfl rfl (by omega) (fun x hx => absurd hx List.not_mem_nil) rfl (by simp only [List.length]; omega) (by rw [show txSs [] = [] from rfl, List.append_nil]; simp only [List.length]; omega) ?_
      rw [show txSs [] = [] from rfl, List.append_nil]
      obtain ⟨p1, p2, p3, p4⟩ := hV9
      exact ⟨p1, p2, ⟨p3.1, Int.le_trans p3.2 (by simp only [List.length]; omega)⟩, p4⟩
    | succ f ih =>
      intro e tm t L1 M1 R1 u hu hf htm hlen hV
      have hw := hV.w
      have hVR : R1 (9, 0, 0, 0) 0 = some (30, 0, 0, 0) := (congrFun hV.2.1.1 0).trans hr
      have g3 : M1 (9, 0, 0, 0) 3 = E := hV.2.2.2.1.2.1
      have g2 : M1 (9, 0, 0, 0) 2 = per := hV.2.2.2.1.1
      have gT := hV.2.2.2.2.1.1
      have gk := hV.2.2.2.2.1.2.2.1
      have gTE : ((E.toNat : Nat) : Int) = E := by omega
      have c1 : 0 ≤ M1 (9, 0, 0, 0) 1 ∧ M1 (9, 0, 0, 0) 1 ≤ 100000 := by have := hV.2.2.1; dsimp only at this; omega
      refine dw_iload4 (pc := 58) F dL_text_58 ?_
      refine dw_aload0 (pc := 60) F dL_text_60 ?_
      refine dw_getI (pc := 61) F dL_text_61 fl_L_64 (by first | assumption | rfl) (by first | assumption | (simp [*]; done)) rfl nz3 ?_
      rw [g3]
      refine dw_icmp_ge (tgt := 136) (pc := 64) F dL_text_64 (by decide) (by unfold inR; omega) (by unfold inR; omega) (fun c64 => absurd c64 (by omega)) (fun c64 => ?_)
      refine dw_aload3 (pc := 67) F dL_text_67 ?_
      refine dw_iload4 (pc := 68) F dL_text_68 ?_
      refine dw_aload0 (pc := 70) F dL_text_70 ?_
      refine dw_aload0 (pc := 71) F dL_text_71 ?_
      refine dw_getI (pc := 72) F dL_text_72 fl_L_61 (by first | assumption | rfl) (by first | assumption | (simp [*]; done)) rfl nz2 ?_
      rw [g2]
      refine dw_callVI (as := [_]) (pc := 75) F dL_text_75 ml_L_55 (by first | assumption | rfl) (by first | assumption | exact Or.inl (by first | assumption | (simp [*]; done))) (cdL_chosen _ _ _ _ _ (by assumption) hVR c1 (by omega)) (Nat.le_of_ble_eq_true rfl) (by decide) (by omega) (fun v1 L9 s9 h9 hLE9 => ?_)
      obtain ⟨hv1, rfl, rfl⟩ := h9
      refine dw_iast (pc := 78) F dL_text_78 gk gT (by omega) (by omega) ?_
      have hV := hV.ch.st (e := (e : Int)) (v := v1)
      have hS0 := hV.2.2.2.2.2
      have hgt : updM (updM M1 (9, 0, 0, 0) 1 (M1 (9, 0, 0, 0) 1 + 1)) T (e : Int) v1 T e = v1 := upd_same
      refine dw_DI F (fun hI9 _ _ _ => ?_)
      have hf9 := hI9.fresh (t := 11) (c := 0) (r := 0) (by decide)
      refine dw_new (t := 11) (w := 1) F (by decide) dL_text_79 nc_11 cl_L_67 ni_11 df_11 (fun _ => rfl) (by decide) (by omega) ?_
      refine dw_dupR (pc := 82) F dL_text_82 ?_
      refine dw_callNV (as := []) (pc := 83) F dL_text_83 ml_L_69 (cX_init _ _ _ _ hf9) (Nat.le_of_ble_eq_true rfl) (by decide) (by omega) (fun L9 s9 h9 hLE9 => ?_)
      have hX := h9
      obtain ⟨M9, R9⟩ := s9
      have hw9 := hX.1 _ hw
      refine dw_aload2 (pc := 86) F dL_text_86 ?_
      refine dw_callVR (as := [_]) (pc := 87) F dL_text_87 ml_L_72 (by first | assumption | rfl) (Or.inl hX.mem) (cX_T _ _ _ _ _ _ _ _ _ _ _ 80 hX hS0 (by omega) (by omega)) (Nat.le_of_ble_eq_true rfl) (by decide) (by omega) (fun r9 L9 s9 h9 hLE9 hin9 => ?_)
      obtain ⟨rfl, hX⟩ := h9
      obtain ⟨M9, R9⟩ := s9
      have hw9 := hX.1 _ hw
      refine dw_ldcS (i := 5) (tx := "event ") (pc := 90) F dL_text_90 (by decide +kernel) ?_
      refine dw_callVR (as := [_]) (pc := 92) F dL_text_92 ml_L_72 (by first | assumption | rfl) (Or.inl hX.mem) (cX_K _ _ _ _ _ _ _ _ 5 6 (by decide) hX (by decide +kernel) (by omega)) (Nat.le_of_ble_eq_true rfl) (by decide) (by omega) (fun r9 L9 s9 h9 hLE9 hin9 => ?_)
      obtain ⟨rfl, hX⟩ := h9
      obtain ⟨M9, R9⟩ := s9
      have hw9 := hX.1 _ hw
      refine dw_ldcS (i := 6) (tx := "abcde") (pc := 95) F dL_text_95 (by decide +kernel) ?_
      refine dw_iload4 (pc := 97) F dL_text_97 ?_
      refine dw_iload4 (pc := 99) F dL_text_99 ?_
      refine dw_iconst (pc := 101) F dL_text_101 ?_
      refine dw_iadd (pc := 102) F dL_text_102 ?_
      refine dw_callVR (as := [_, _]) (pc := 103) F dL_text_103 ml_L_89 (by first | assumption | rfl) (Or.inr ⟨rfl, 6, by decide, rfl⟩) (cX_sub _ _ _ _ _ _ _ _ _ hX (by omega)) (Nat.le_of_ble_eq_true rfl) (by decide) (by omega) (fun r9 L9 s9 h9 hLE9 hin9 => ?_)
      have hX := h9
      obtain ⟨M9, R9⟩ := s9
      have hw9 := hX.1 _ hw
      refine dw_callVR (as := [_]) (pc := 106) F dL_text_106 ml_L_72 (by first | assumption | rfl) (Or.inl hX.mem) (cX_S _ _ _ _ _ _ _ _ _ _ hX (by omega)) (Nat.le_of_ble_eq_true rfl) (by decide) (by omega) (fun r9 L9 s9 h9 hLE9 hin9 => ?_)
      obtain ⟨rfl, hX⟩ := h9
      obtain ⟨M9, R9⟩ := s9
      have hw9 := hX.1 _ hw
      refine dw_ldcS (i := 7) (tx := " ") (pc := 109) F dL_text_109 (by decide +kernel) ?_
      refine dw_callVR (as := [_]) (pc := 111) F dL_text_111 ml_L_72 (by first | assumption | rfl) (Or.inl hX.mem) (cX_K _ _ _ _ _ _ _ _ 7 1 (by decide) hX (by decide +kernel) (by omega)) (Nat.le_of_ble_eq_true rfl) (by decide) (by omega) (fun r9 L9 s9 h9 hLE9 hin9 => ?_)
      obtain ⟨rfl, hX⟩ := h9
      obtain ⟨M9, R9⟩ := s9
      have hw9 := hX.1 _ hw
      refine dw_aload3 (pc := 114) F dL_text_114 ?_
      refine dw_iload4 (pc := 115) F dL_text_115 ?_
      have gT9 := hX.1 _ gT
      refine dw_iald (pc := 117) F dL_text_117 gk gT9 (by omega) (by omega) ?_
      rw [show M9 T (e : Int) = v1 from (congrFun (hX.at gT) (e : Int)).trans hgt]
      refine dw_callVR (as := [_]) (pc := 118) F dL_text_118 ml_L_76 (by first | assumption | rfl) (Or.inl hX.mem) (cX_I _ _ _ _ _ _ _ _ _ hX (by omega) (by omega)) (Nat.le_of_ble_eq_true rfl) (by decide) (by omega) (fun r9 L9 s9 h9 hLE9 hin9 => ?_)
      obtain ⟨rfl, hX⟩ := h9
      obtain ⟨M9, R9⟩ := s9
      have hw9 := hX.1 _ hw
      refine dw_ldcS (i := 4) (tx := ";") (pc := 121) F dL_text_121 (by decide +kernel) ?_
      refine dw_callVR (as := [_]) (pc := 123) F dL_text_123 ml_L_72 (by first | assumption | rfl) (Or.inl hX.mem) (cX_K _ _ _ _ _ _ _ _ 4 1 (by decide) hX (by decide +kernel) (by omega)) (Nat.le_of_ble_eq_true rfl) (by decide) (by omega) (fun r9 L9 s9 h9 hLE9 hin9 => ?_)
      obtain ⟨rfl, hX⟩ := h9
      obtain ⟨M9, R9⟩ := s9
      have hw9 := hX.1 _ hw
      refine dw_callVR (as := []) (pc := 126) F dL_text_126 ml_L_81 (by first | assumption | rfl) (Or.inl hX.mem) (cX_toS _ _ _ _ _ _ _ _ _ hX hV.1.1 (by omega)) (Nat.le_of_ble_eq_true rfl) (by decide) (by omega) (fun r9 L9 s9 h9 hLE9 hin9 => ?_)
      obtain ⟨hL9, hK9, hS9⟩ := h9
      obtain ⟨M9, R9⟩ := s9
      have hV := hV.ko hL9 hK9 hS9
      refine dw_astore2 (pc := 129) F dL_text_129 rfl hk.symm ?_
      refine dw_iinc4 (pc := 130) F dL_text_130 rfl hk.symm ?_
      refine dw_goto (tgt := 58) (pc := 133) F dL_text_133 (by decide) ?_
      have e9 : txEs (upS tm e v1) (e + 1) = txEs tm e ++ txE e v1 := by
        show txEs (upS tm e v1) e ++ txE e (upS tm e v1 e) = _
        rw [upS_same, txEs_congr e (fun j j0 j1 => upS_ne (by omega))]
      have k9 := txE_len (e := (e : Int)) (t := v1)
      rw [show ((e : Int) + 1) = ((e + 1 : Nat) : Int) by omega]
      refine ih (e + 1) (upS tm e v1) _ _ _ _ _ (by omega) (by omega) (fun j j0 j1 => ?_) ?_ ?_
      · by_cases z : j = e
        · rw [z, upS_same]; exact hv1
        · rw [upS_ne z]; exact htm j j0 (by omega)
      · rw [e9, ← List.append_assoc, List.length_append]; omega
      · rw [e9]
        obtain ⟨p1, p2, p3, p4⟩ := hV
        refine ⟨p1, p2, ⟨p3.1, by omega⟩, ?_⟩
        unfold txE
        simpa only [List.nil_append, List.append_assoc] using p4
  refine dw_DI F (fun hI0 _ _ _ => ?_)
  have hw := hm
  refine dw_aload0 (pc := 0) F dL_text_0 ?_
  refine dw_aload0 (pc := 1) F dL_text_1 ?_
  refine dw_iconst (pc := 2) F dL_text_2 ?_
  refine dw_iload1 (pc := 3) F dL_text_3 ?_
  refine dw_callVI (as := [_, _]) (pc := 4) F dL_text_4 ml_L_58 (by first | assumption | rfl) (by first | assumption | exact Or.inl (by first | assumption | (simp [*]; done))) (cdL_from _ _ _ _ _ _ (by assumption) hr (by omega) (by omega)) (Nat.le_of_ble_eq_true rfl) (by decide) (by omega) (fun v1 L9 s9 h9 hLE9 => ?_)
  obtain ⟨hv1, hLe, rfl⟩ := h9
  replace hLe := hLe.symm
  subst hLe
  refine dw_putI (pc := 7) F dL_text_7 fl_L_61 pg_9_2 (by first | assumption | rfl) (by first | assumption | (simp [*]; done)) rfl nz2 ?_
  refine dw_aload0 (pc := 10) F dL_text_10 ?_
  refine dw_aload0 (pc := 11) F dL_text_11 ?_
  refine dw_iconst (pc := 12) F dL_text_12 ?_
  refine dw_iconst (pc := 13) F dL_text_13 ?_
  refine dw_callVI (as := [_, _]) (pc := 14) F dL_text_14 ml_L_58 (by first | assumption | rfl) (by first | assumption | exact Or.inl (by first | assumption | (simp [*]; done))) (cdL_from _ _ _ _ _ _ (by assumption) hr (by rw [upd_ne (Or.inr (by decide)), upd_same]; omega) (by omega)) (Nat.le_of_ble_eq_true rfl) (by decide) (by omega) (fun v2 L9 s9 h9 hLE9 => ?_)
  obtain ⟨hv2, hLe, rfl⟩ := h9
  replace hLe := hLe.symm
  subst hLe
  refine dw_putI (pc := 17) F dL_text_17 fl_L_64 pg_9_3 (by first | assumption | rfl) (by first | assumption | (simp [*]; done)) rfl nz3 ?_
  obtain ⟨M0, hM0⟩ : ∃ M0, M0 = updM (updM (updM (updM M (9, 0, 0, 0) 1 (M (9, 0, 0, 0) 1 + 1)) (9, 0, 0, 0) 2 v1) (9, 0, 0, 0) 1 (updM (updM M (9, 0, 0, 0) 1 (M (9, 0, 0, 0) 1 + 1)) (9, 0, 0, 0) 2 v1 (9, 0, 0, 0) 1 + 1)) (9, 0, 0, 0) 3 v2 := ⟨_, rfl⟩
  rw [← hM0]
  have q2 : M0 (9, 0, 0, 0) 2 = v1 := by rw [hM0, upd_ne (Or.inr (by decide)), upd_ne (Or.inr (by decide)), upd_same]
  have q3 : M0 (9, 0, 0, 0) 3 = v2 := by rw [hM0, upd_same]
  have q1 : M0 (9, 0, 0, 0) 1 = 2 := by rw [hM0, upd_ne (Or.inr (by decide)), upd_same, upd_ne (Or.inr (by decide)), upd_same, ha]; rfl
  have qk : ∀ k, 4 ≤ k → M0 (9, 0, 0, 0) k = M (9, 0, 0, 0) k := fun k hk => by rw [hM0, upd_ne (Or.inr (by omega)), upd_ne (Or.inr (by omega)), upd_ne (Or.inr (by omega)), upd_ne (Or.inr (by omega))]
  have qo : ∀ x, x ≠ (9, 0, 0, 0) → M0 x = M x := fun x hx => by rw [hM0, updM_ne hx, updM_ne hx, updM_ne hx, updM_ne hx]
  refine dw_DI F (fun hI9 _ _ _ => ?_)
  have hf9 := hI9.fresh (t := 11) (c := 0) (r := 0) (by decide)
  refine dw_new (t := 11) (w := 1) F (by decide) dL_text_20 nc_11 cl_L_67 ni_11 df_11 (fun _ => rfl) (by decide) (by omega) ?_
  refine dw_dupR (pc := 23) F dL_text_23 ?_
  refine dw_callNV (as := []) (pc := 24) F dL_text_24 ml_L_69 (cX_init _ _ _ _ hf9) (Nat.le_of_ble_eq_true rfl) (by decide) (by omega) (fun L9 s9 h9 hLE9 => ?_)
  have hX := h9
  obtain ⟨M9, R9⟩ := s9
  have hw9 := hX.1 _ hw
  refine dw_ldcS (i := 3) (tx := "period ") (pc := 27) F dL_text_27 (by decide +kernel) ?_
  refine dw_callVR (as := [_]) (pc := 29) F dL_text_29 ml_L_72 (by first | assumption | rfl) (Or.inl hX.mem) (cX_K _ _ _ _ _ _ _ _ 3 7 (by decide) hX (by decide +kernel) (by omega)) (Nat.le_of_ble_eq_true rfl) (by decide) (by omega) (fun r9 L9 s9 h9 hLE9 hin9 => ?_)
  obtain ⟨rfl, hX⟩ := h9
  obtain ⟨M9, R9⟩ := s9
  have hw9 := hX.1 _ hw
  refine dw_aload0 (pc := 32) F dL_text_32 ?_
  refine dw_getI (pc := 33) F dL_text_33 fl_L_61 (by first | assumption | rfl) (by first | assumption | (simp [*]; done)) rfl nz2 ?_
  rw [show M9 (9, 0, 0, 0) 2 = v1 from (congrFun (hX.at hw) 2).trans q2]
  refine dw_callVR (as := [_]) (pc := 36) F dL_text_36 ml_L_76 (by first | assumption | rfl) (Or.inl hX.mem) (cX_I _ _ _ _ _ _ _ _ _ hX (by omega) (by omega)) (Nat.le_of_ble_eq_true rfl) (by decide) (by omega) (fun r9 L9 s9 h9 hLE9 hin9 => ?_)
  obtain ⟨rfl, hX⟩ := h9
  obtain ⟨M9, R9⟩ := s9
  have hw9 := hX.1 _ hw
  refine dw_ldcS (i := 4) (tx := ";") (pc := 39) F dL_text_39 (by decide +kernel) ?_
  refine dw_callVR (as := [_]) (pc := 41) F dL_text_41 ml_L_72 (by first | assumption | rfl) (Or.inl hX.mem) (cX_K _ _ _ _ _ _ _ _ 4 1 (by decide) hX (by decide +kernel) (by omega)) (Nat.le_of_ble_eq_true rfl) (by decide) (by omega) (fun r9 L9 s9 h9 hLE9 hin9 => ?_)
  obtain ⟨rfl, hX⟩ := h9
  obtain ⟨M9, R9⟩ := s9
  have hw9 := hX.1 _ hw
  refine dw_callVR (as := []) (pc := 44) F dL_text_44 ml_L_81 (by first | assumption | rfl) (Or.inl hX.mem) (cX_toS _ L _ _ _ _ _ _ _ hX LE.rf (by omega)) (Nat.le_of_ble_eq_true rfl) (by decide) (by omega) (fun r9 L9 s9 h9 hLE9 hin9 => ?_)
  obtain ⟨hL9, hK9, hS9⟩ := h9
  obtain ⟨M9, R9⟩ := s9
  have hw9 := hL9 _ hw
  have hKw := hK9 _ (Or.inl hw) (fun z => z)
  refine dw_astore2 (pc := 47) F dL_text_47 rfl hk.symm ?_
  refine dw_aload0 (pc := 48) F dL_text_48 ?_
  refine dw_getI (pc := 49) F dL_text_49 fl_L_64 (by first | assumption | rfl) (by first | assumption | (simp [*]; done)) rfl nz3 ?_
  rw [show M9 (9, 0, 0, 0) 3 = v2 from (congrFun hKw.1 3).trans q3]
  refine dw_DI F (fun hI8 _ _ _ => ?_)
  have hf8 := hI8.fresh (t := 12) (c := v2.toNat) (r := 0) (by decide)
  refine dw_newI (N := v2.toNat) (w := 1) (pc := 52) F dL_text_52 ac_0 (show v2 = ((v2.toNat : Nat) : Int) by omega) (by omega) (by omega) (by omega) ?_
  refine dw_astore3 (pc := 54) F dL_text_54 rfl hk.symm ?_
  refine dw_iconst (pc := 55) F dL_text_55 ?_
  refine dw_istore4 (pc := 56) F dL_text_56 rfl hk.symm ?_
  refine loopE v1 v2 _ (by omega) (by omega) v2.toNat 0 (fun _ => 0) _ _ _ _ _ (by omega) (by omega) (fun j j0 j1 => by omega) ?_ ?_
  · have := txP_len (per := v1)
    show (txP v1 ++ []).length ≤ 12 + 12 * 0
    rw [List.append_nil]; omega
  · have hne : (9, 0, 0, 0) ≠ (12, (L9.length : Int), v2.toNat, (0 : Int)) := fun z => by cases z
    show TV L (M, Rf) _ _ (3 + ((0 : Nat) : Int)) v1 v2 (M (9, 0, 0, 0) 4) _ _ _ (txP v1 ++ [])
    rw [List.append_nil]
    have hnK : ∀ x, inK L9 x → x ≠ (12, (L9.length : Int), v2.toNat, (0 : Int)) := fun x hx => inK_ne hx hf8 (Nat.le_of_ble_eq_true rfl)
    have hko : KO L9 (M9, R9) (zM M9 (12, (L9.length : Int), v2.toNat, 0), zR R9 (12, (L9.length : Int), v2.toNat, 0)) := fun x hx _ => ⟨zM_ne (hnK x hx), zR_ne (hnK x hx)⟩
    have hall := KO.tr hL9 hK9 hko
    have hKz := hall _ (Or.inl hw) (fun z => z)
    refine ⟨⟨hL9.app, fun x hx hn => ?_, hw⟩, ⟨hKz.2, fun k hk => (congrFun hKz.1 k).trans (qk k (by omega))⟩, ?_, ⟨(congrFun hKz.1 2).trans q2, (congrFun hKz.1 3).trans q3, (congrFun hKz.1 4).trans (qk 4 (by omega))⟩, ⟨List.mem_append_right _ List.mem_cons_self, fun z => hf8 (hL9 _ z), rfl, Nat.le_of_ble_eq_true rfl, fun j j0 j1 => zM_same⟩, ?_⟩
    · obtain ⟨g1, g2⟩ := hall x hx (fun z => z)
      exact ⟨g1.trans (qo x hn), g2⟩
    · have := (congrFun hKz.1 1).trans q1
      exact ⟨by rw [this]; omega, by rw [this]; omega⟩
    · have := hS9.ko (L := L9 ++ [(12, (L9.length : Int), v2.toNat, 0)]) LE.rf.app hko
      unfold txP
      simpa only [List.nil_append] using this
