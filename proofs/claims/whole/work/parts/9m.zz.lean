/-! 9m: what holds at the law's entry, beside the tables -/
section ZST
variable {s : State} {args : Array Value}
theorem gv (hgv : (Jvm.Cond.and given_1 narrow_1).before args s = true) (i : Nat) {w : Cond} (hw : (flatC (Jvm.Cond.and given_1 narrow_1))[i]? = some w) : w.before args s = true := flat_of_before _ hgv _ (List.mem_of_getElem? hw)
theorem str_ev {own : String} {k : Nat} (h : (Cond.exactly (.string own k) "java/lang/String").before args s = true) : ∃ a, (Term.string own k).eval args s none [] s = some (.ref a) := by
  obtain ⟨a, c, cA, kA, q1, -⟩ := Cond.exactly_spec (args := args) (first := s) (o := none) (s := s) (idx := []) h
  exact ⟨a, q1⟩
theorem zs_NV (hts : ∀ w ∈ lw_tbl, w.before args s = true) : NV s := by
  refine ⟨fun x hx => ?_, va_AO.of (hts _ (List.mem_of_getElem? (i := 284) (by decide +kernel))), (show (Cond.arrayOver (.array .int)).before args s = true from (hts _ (List.mem_of_getElem? (i := 326) (by decide +kernel)))), (show (Cond.arrayOver (.array .byte)).before args s = true from (hts _ (List.mem_of_getElem? (i := 227) (by decide +kernel))))⟩
  simp only [NL, List.mem_cons, List.not_mem_nil, or_false] at hx
  rcases hx with rfl | rfl | rfl | rfl | rfl | rfl | rfl | rfl | rfl | rfl | rfl | rfl
  · exact va_Nw.of rfl (hts _ (List.mem_of_getElem? (i := 147) (by decide +kernel)))
  · exact va_Nw.of rfl (hts _ (List.mem_of_getElem? (i := 153) (by decide +kernel)))
  · exact va_Nw.of rfl (hts _ (List.mem_of_getElem? (i := 222) (by decide +kernel)))
  · exact va_Nw.of rfl (hts _ (List.mem_of_getElem? (i := 274) (by decide +kernel)))
  · exact va_Nw.of rfl (hts _ (List.mem_of_getElem? (i := 276) (by decide +kernel)))
  · exact va_Nw.of rfl (hts _ (List.mem_of_getElem? (i := 285) (by decide +kernel)))
  · exact va_Nw.of rfl (hts _ (List.mem_of_getElem? (i := 298) (by decide +kernel)))
  · exact va_Nw.of rfl (hts _ (List.mem_of_getElem? (i := 321) (by decide +kernel)))
  · exact va_Nw.of rfl (hts _ (List.mem_of_getElem? (i := 353) (by decide +kernel)))
  · exact va_Nw.of rfl (hts _ (List.mem_of_getElem? (i := 359) (by decide +kernel)))
  · exact va_Nw.of rfl (hts _ (List.mem_of_getElem? (i := 396) (by decide +kernel)))
  · exact va_Nw.of rfl (hts _ (List.mem_of_getElem? (i := 492) (by decide +kernel)))
theorem zs_SL (hts : ∀ w ∈ lw_tbl, w.before args s = true) (hgv : (Jvm.Cond.and given_1 narrow_1).before args s = true) : ∀ x ∈ SL, ∃ a, vk_R x.1 x.2.1 x.2.2 a s := by
  intro x hx
  simp only [SL, List.mem_cons, List.not_mem_nil, or_false] at hx
  rcases hx with rfl | rfl | rfl | rfl | rfl | rfl | rfl | rfl | rfl | rfl | rfl | rfl | rfl | rfl | rfl
  · exact (str_ev (gv hgv 63 (by decide +kernel))).imp fun a h => vk_R.of (hts _ (List.mem_of_getElem? (i := 751) (by decide +kernel))) h
  · exact (str_ev (gv hgv 128 (by decide +kernel))).imp fun a h => vk_R.of (hts _ (List.mem_of_getElem? (i := 952) (by decide +kernel))) h
  · exact (str_ev (gv hgv 149 (by decide +kernel))).imp fun a h => vk_R.of (hts _ (List.mem_of_getElem? (i := 970) (by decide +kernel))) h
  · exact (str_ev (gv hgv 170 (by decide +kernel))).imp fun a h => vk_R.of (hts _ (List.mem_of_getElem? (i := 971) (by decide +kernel))) h
  · exact (str_ev (gv hgv 194 (by decide +kernel))).imp fun a h => vk_R.of (hts _ (List.mem_of_getElem? (i := 1011) (by decide +kernel))) h
  · exact (str_ev (gv hgv 222 (by decide +kernel))).imp fun a h => vk_R.of (hts _ (List.mem_of_getElem? (i := 1047) (by decide +kernel))) h
  · exact (str_ev (gv hgv 258 (by decide +kernel))).imp fun a h => vk_R.of (hts _ (List.mem_of_getElem? (i := 1059) (by decide +kernel))) h
  · exact (str_ev (gv hgv 284 (by decide +kernel))).imp fun a h => vk_R.of (hts _ (List.mem_of_getElem? (i := 1071) (by decide +kernel))) h
  · exact (str_ev (gv hgv 310 (by decide +kernel))).imp fun a h => vk_R.of (hts _ (List.mem_of_getElem? (i := 1109) (by decide +kernel))) h
  · exact (str_ev (gv hgv 339 (by decide +kernel))).imp fun a h => vk_R.of (hts _ (List.mem_of_getElem? (i := 1117) (by decide +kernel))) h
  · exact (str_ev (gv hgv 373 (by decide +kernel))).imp fun a h => vk_R.of (hts _ (List.mem_of_getElem? (i := 1128) (by decide +kernel))) h
  · exact (str_ev (gv hgv 416 (by decide +kernel))).imp fun a h => vk_R.of (hts _ (List.mem_of_getElem? (i := 1194) (by decide +kernel))) h
  · exact (str_ev (gv hgv 462 (by decide +kernel))).imp fun a h => vk_R.of (hts _ (List.mem_of_getElem? (i := 1204) (by decide +kernel))) h
  · exact (str_ev (gv hgv 499 (by decide +kernel))).imp fun a h => vk_R.of (hts _ (List.mem_of_getElem? (i := 1226) (by decide +kernel))) h
  · exact (str_ev (gv hgv 561 (by decide +kernel))).imp fun a h => vk_R.of (hts _ (List.mem_of_getElem? (i := 1260) (by decide +kernel))) h
theorem zs_EX (hts : ∀ w ∈ lw_tbl, w.before args s = true) (hgv : (Jvm.Cond.and given_1 narrow_1).before args s = true) : EX s := by
  refine ⟨fun x hx => ?_, fun x hx => ?_, fun x hx y hy hxy => ?_⟩
  · simp only [DL, List.mem_cons, List.not_mem_nil, or_false] at hx
    rcases hx with rfl | rfl | rfl
    · exact va_Nw.of rfl (hts _ (List.mem_of_getElem? (i := 713) (by decide +kernel)))
    · exact va_Nw.of rfl (hts _ (List.mem_of_getElem? (i := 715) (by decide +kernel)))
    · exact va_Nw.of rfl (hts _ (List.mem_of_getElem? (i := 717) (by decide +kernel)))
  · simp only [EL, List.mem_cons, List.not_mem_nil, or_false] at hx
    rcases hx with rfl | rfl | rfl | rfl
    · exact va_Nw.of rfl (hts _ (List.mem_of_getElem? (i := 945) (by decide +kernel)))
    · exact va_Nw.of rfl (hts _ (List.mem_of_getElem? (i := 711) (by decide +kernel)))
    · exact va_Nw.of rfl (hts _ (List.mem_of_getElem? (i := 1197) (by decide +kernel)))
    · exact va_Nw.of rfl (hts _ (List.mem_of_getElem? (i := 1004) (by decide +kernel)))
  · simp only [EL, List.mem_cons, List.not_mem_nil, or_false] at hx hy
    rcases hx with rfl | rfl | rfl | rfl <;> rcases hy with rfl | rfl | rfl | rfl
    · exact absurd rfl hxy
    · exact va_Nc.of (gv hgv 21 (by decide +kernel))
    · exact va_Nc.of (gv hgv 61 (by decide +kernel))
    · exact va_Nc.of (gv hgv 48 (by decide +kernel))
    · exact va_Nc.of (gv hgv 34 (by decide +kernel))
    · exact absurd rfl hxy
    · exact va_Nc.of (gv hgv 60 (by decide +kernel))
    · exact va_Nc.of (gv hgv 47 (by decide +kernel))
    · exact va_Nc.of (gv hgv 36 (by decide +kernel))
    · exact va_Nc.of (gv hgv 23 (by decide +kernel))
    · exact absurd rfl hxy
    · exact va_Nc.of (gv hgv 49 (by decide +kernel))
    · exact va_Nc.of (gv hgv 35 (by decide +kernel))
    · exact va_Nc.of (gv hgv 22 (by decide +kernel))
    · exact va_Nc.of (gv hgv 62 (by decide +kernel))
    · exact absurd rfl hxy
def tmW (i : Nat) : Term := if i = 0 then .string RX6 74 else if i = 1 then .string RX6 89 else .string RX6 101
theorem zs_W (hgv : (Jvm.Cond.and given_1 narrow_1).before args s = true) {A : Nat → Prop} (hA : ∀ a : Nat, a < s.heap.size → ¬ A a) : ∃ adK adV : Nat → Nat, vk_S 3 wLen wByt adK adV A s s.heap ∧ ∀ i : Nat, i < 3 → (tmW i).eval args s none [] s = some (.ref (adK i)) := by
  refine vk_Sof (tm := tmW) ?_ ?_ ?_ ?_ ?_ ?_ ?_ hA
  · intro i hi
    rcases (show i = 0 ∨ i = 1 ∨ i = 2 by omega) with rfl | rfl | rfl <;> decide
  · skip
    intro i hi
    rcases (show i = 0 ∨ i = 1 ∨ i = 2 by omega) with rfl | rfl | rfl
    · exact (gv hgv 95 (by decide +kernel))
    · exact (gv hgv 106 (by decide +kernel))
    · exact (gv hgv 117 (by decide +kernel))
  · skip
    intro i hi
    rcases (show i = 0 ∨ i = 1 ∨ i = 2 by omega) with rfl | rfl | rfl
    · exact (gv hgv 96 (by decide +kernel))
    · exact (gv hgv 107 (by decide +kernel))
    · exact (gv hgv 118 (by decide +kernel))
  · skip
    intro i hi
    rcases (show i = 0 ∨ i = 1 ∨ i = 2 by omega) with rfl | rfl | rfl
    · exact (gv hgv 97 (by decide +kernel))
    · exact (gv hgv 108 (by decide +kernel))
    · exact (gv hgv 119 (by decide +kernel))
  · skip
    intro i hi
    rcases (show i = 0 ∨ i = 1 ∨ i = 2 by omega) with rfl | rfl | rfl
    · exact (gv hgv 98 (by decide +kernel))
    · exact (gv hgv 109 (by decide +kernel))
    · exact (gv hgv 120 (by decide +kernel))
  · intro i hi j hj
    rcases (show i = 0 ∨ i = 1 ∨ i = 2 by omega) with rfl | rfl | rfl
    · have hj2 : j < 6 := hj
      rcases (show j = 0 ∨ j = 1 ∨ j = 2 ∨ j = 3 ∨ j = 4 ∨ j = 5 by omega) with rfl | rfl | rfl | rfl | rfl | rfl
      · exact (gv hgv 99 (by decide +kernel))
      · exact (gv hgv 100 (by decide +kernel))
      · exact (gv hgv 101 (by decide +kernel))
      · exact (gv hgv 102 (by decide +kernel))
      · exact (gv hgv 103 (by decide +kernel))
      · exact (gv hgv 104 (by decide +kernel))
    · have hj2 : j < 5 := hj
      rcases (show j = 0 ∨ j = 1 ∨ j = 2 ∨ j = 3 ∨ j = 4 by omega) with rfl | rfl | rfl | rfl | rfl
      · exact (gv hgv 110 (by decide +kernel))
      · exact (gv hgv 111 (by decide +kernel))
      · exact (gv hgv 112 (by decide +kernel))
      · exact (gv hgv 113 (by decide +kernel))
      · exact (gv hgv 114 (by decide +kernel))
    · have hj2 : j < 4 := hj
      rcases (show j = 0 ∨ j = 1 ∨ j = 2 ∨ j = 3 by omega) with rfl | rfl | rfl | rfl
      · exact (gv hgv 121 (by decide +kernel))
      · exact (gv hgv 122 (by decide +kernel))
      · exact (gv hgv 123 (by decide +kernel))
      · exact (gv hgv 124 (by decide +kernel))
  · intro i j hi hj hij
    rcases (show i = 0 ∨ i = 1 ∨ i = 2 by omega) with rfl | rfl | rfl <;> rcases (show j = 0 ∨ j = 1 ∨ j = 2 by omega) with rfl | rfl | rfl
    · exact absurd rfl hij
    · exact Or.inl (gv hgv 116 (by decide +kernel))
    · exact Or.inl (gv hgv 126 (by decide +kernel))
    · exact Or.inr (gv hgv 116 (by decide +kernel))
    · exact absurd rfl hij
    · exact Or.inl (gv hgv 127 (by decide +kernel))
    · exact Or.inr (gv hgv 126 (by decide +kernel))
    · exact Or.inr (gv hgv 127 (by decide +kernel))
    · exact absurd rfl hij
theorem zs_ZZ (hts : ∀ w ∈ lw_tbl, w.before args s = true) (hgv : (Jvm.Cond.and given_1 narrow_1).before args s = true) {A : Nat → Prop} (hA : ∀ a : Nat, a < s.heap.size → ¬ A a) : ∃ (adK adV : Nat → Nat) (fa : Nat), ∀ ρ : Id4 → Nat, (∀ i : Nat, ρ (20, (i : Int), 0, 0) = adK i) → (∀ i : Nat, ρ (21, (i : Int), 0, 0) = adV i) → ρ (22, 0, 0, 0) = fa → ZZ ρ A s := by
  obtain ⟨adK, adV, hS, hev⟩ := zs_W (s := s) (args := args) hgv hA
  obtain ⟨v, hv, hr⟩ := Cond.isRef_spec (args := args) (first := s) (o := none) (s := s) (idx := []) (t := .static fmN fmF fmD) (gv hgv 7 (by decide +kernel))
  obtain ⟨fa, hfa⟩ : ∃ fa : Nat, v = .null ∨ v = .ref fa := by
    cases v with
    | null => exact ⟨0, Or.inl rfl⟩
    | ref a => exact ⟨a, Or.inr rfl⟩
    | _ => cases hr
  have e0 : (Term.string RX6 74).eval args s none [] s = some (.ref (adK 0)) := hev 0 (by decide)
  have e1 : (Term.string RX6 89).eval args s none [] s = some (.ref (adK 1)) := hev 1 (by decide)
  have e2 : (Term.string RX6 101).eval args s none [] s = some (.ref (adK 2)) := hev 2 (by decide)
  refine ⟨adK, adV, fa, fun ρ r20 r21 r22 => ⟨?_, ?_, (zs_NV hts).1, zs_SL hts hgv, ?_, ?_, ⟨?_, ?_⟩, zs_EX hts hgv⟩⟩
  · exact vx_Zqof (hts _ (List.mem_of_getElem? (i := 736) (by decide +kernel))) (hts _ (List.mem_of_getElem? (i := 123) (by decide +kernel))) (gv hgv 4 (by decide +kernel)) hA
  · exact vx_Zqof (hts _ (List.mem_of_getElem? (i := 738) (by decide +kernel))) (hts _ (List.mem_of_getElem? (i := 123) (by decide +kernel))) (gv hgv 5 (by decide +kernel)) hA
  · intro x hx
    simp only [WL, List.mem_cons, List.not_mem_nil, or_false] at hx
    have q0 := r20 0
    have q1 := r20 1
    have q2 := r20 2
    rcases hx with rfl | rfl | rfl | rfl | rfl | rfl
    · exact (show ρ (20, 0, 0, 0) = adK 0 from q0) ▸ vk_R.of (hts _ (List.mem_of_getElem? (i := 806) (by decide +kernel))) e0
    · exact (show ρ (20, 1, 0, 0) = adK 1 from q1) ▸ vk_R.of (hts _ (List.mem_of_getElem? (i := 879) (by decide +kernel))) e1
    · exact (show ρ (20, 2, 0, 0) = adK 2 from q2) ▸ vk_R.of (hts _ (List.mem_of_getElem? (i := 901) (by decide +kernel))) e2
    · exact (show ρ (20, 0, 0, 0) = adK 0 from q0) ▸ vk_R.of (hts _ (List.mem_of_getElem? (i := 1431) (by decide +kernel))) (va_eqR (gv hgv 610 (by decide +kernel)) e0)
    · exact (show ρ (20, 1, 0, 0) = adK 1 from q1) ▸ vk_R.of (hts _ (List.mem_of_getElem? (i := 1454) (by decide +kernel))) (va_eqR (gv hgv 638 (by decide +kernel)) e1)
    · exact (show ρ (20, 2, 0, 0) = adK 2 from q2) ▸ vk_R.of (hts _ (List.mem_of_getElem? (i := 1468) (by decide +kernel))) (va_eqR (gv hgv 666 (by decide +kernel)) e2)
  · rw [show (fun i : Nat => ρ (20, (i : Int), 0, 0)) = adK from funext r20, show (fun i : Nat => ρ (21, (i : Int), 0, 0)) = adV from funext r21]
    exact hS
  · exact va_Zof (hts _ (List.mem_of_getElem? (i := 820) (by decide +kernel))) (hts _ (List.mem_of_getElem? (i := 128) (by decide +kernel))) (va_eqt (gv hgv 6 (by decide +kernel))) hA
  · rcases hfa with rfl | rfl
    · exact Or.inl (va_Zof (hts _ (List.mem_of_getElem? (i := 836) (by decide +kernel))) (hts _ (List.mem_of_getElem? (i := 130) (by decide +kernel))) hv hA)
    · exact Or.inr (r22 ▸ va_Zof (hts _ (List.mem_of_getElem? (i := 836) (by decide +kernel))) (hts _ (List.mem_of_getElem? (i := 130) (by decide +kernel))) hv hA)
end ZST
