/-! 9n: the law makes its objects -/
theorem qS_not : qS ∉ Lord := by decide +kernel
theorem cl_L_8 : Cond.classLink RL 8 RX8 ∈ Gw := (gwI 137 (by decide +kernel) rfl)
theorem cl_L_122 : Cond.classLink RL 122 RX9 ∈ Gw := (gwI 1261 (by decide +kernel) rfl)
theorem mi_L_121 : MLI RL 121 none yX8_init cX8_init 1 := ⟨by decide +kernel, by decide, (gwI 139 (by decide +kernel) rfl), rfl, (gwI 140 (by decide +kernel) rfl), (gwI 113 (by decide +kernel) rfl), (gwI 141 (by decide +kernel) rfl)⟩
theorem mi_L_124 : MLI RL 124 none yX9_init cX9_init 1 := ⟨by decide +kernel, by decide, (gwI 1263 (by decide +kernel) rfl), rfl, (gwI 1264 (by decide +kernel) rfl), (gwI 122 (by decide +kernel) rfl), (gwI 1265 (by decide +kernel) rfl)⟩
def M9 : Id4 → Int → Int := setA (setA M8 (9, 0, 0, 0) A9) (9, 0, 1, 0) S9
def R9 : Id4 → Int → Option Id4 := setR R8 (9, 0, 0, 0) B9
/-- the same references, as far as a cell has them -/
def chk (R R' : Id4 → Int → Option Id4) (q : Id4) : Bool := match kd q with
  | .inl t => (List.range (nfl t)).all fun k => !rfF t k || decide (R q (k : Int) = R' q (k : Int))
  | .inr (e, n) => decide (e ≤ 4) || (List.range n).all fun j => decide (R q (j : Int) = R' q (j : Int))
theorem chk_all : Lall.all (chk R9 (R0 false)) = true := by decide +kernel
theorem va_at_chk {g : va_G} {cy : Nat → ClassId} {ρ : Id4 → Nat} {M : Id4 → Int → Int} {R R' : Id4 → Int → Option Id4} {q : Id4} {H : Heap} (h : chk R R' q = true) (hp : va_at g vwCl (ρ q, ent ρ cy (M, R) q) H) : va_at g vwCl (ρ q, ent ρ cy (M, R') q) H := by
  unfold ent at hp ⊢
  unfold chk at h
  cases hk : kd q with
  | inl t =>
    rw [hk] at h hp
    dsimp only at h hp ⊢
    have e : flds ρ (M, R') q t = flds ρ (M, R) q t := by
      unfold flds
      refine List.map_congr_left fun k hk9 => ?_
      have h1 := List.all_eq_true.mp h k hk9
      by_cases hf : rfF t k = true
      · rw [if_pos hf, if_pos hf]
        rw [hf] at h1
        have h2 : R q (k : Int) = R' q (k : Int) := by simpa using h1
        show va_rf ((R' q (k : Int)).map ρ) = va_rf ((R q (k : Int)).map ρ)
        rw [h2]
      · rw [if_neg hf, if_neg hf]
    rw [e]
    exact hp
  | inr en =>
    obtain ⟨e, n⟩ := en
    rw [hk] at h hp
    dsimp only at h hp ⊢
    by_cases he : e ≤ 4
    · have e9 : arrs ρ (M, R') q e = arrs ρ (M, R) q e := by
        unfold arrs
        by_cases h3 : e ≤ 3
        · rw [if_pos h3, if_pos h3]
        · rw [if_neg h3, if_neg h3, if_pos (by omega), if_pos (by omega)]
      rw [e9]
      exact hp
    · have hall : ∀ j : Nat, j < n → R q (j : Int) = R' q (j : Int) := fun j hj => by
        rw [show decide (e ≤ 4) = false from decide_eq_false he, Bool.false_or] at h
        exact of_decide_eq_true (List.all_eq_true.mp h j (List.mem_range.mpr hj))
      have a1 : ∀ R'' : Id4 → Int → Option Id4, arrs ρ (M, R'') q e = .inr (.inr (.inr (.inr (fun j => (R'' q (j : Int)).map ρ)))) := fun R'' => by
        unfold arrs
        rw [if_neg (by omega), if_neg (by omega)]
      rw [a1] at hp ⊢
      have hp2 : H[ρ q]? = some (vp_cell (cy e) (n, .inr (.inr (.inr (.inr (fun j : Nat => (R q (j : Int)).map ρ)))))) := hp
      show H[ρ q]? = some (vp_cell (cy e) (n, .inr (.inr (.inr (.inr (fun j : Nat => (R' q (j : Int)).map ρ))))))
      rw [hp2, vp_cell_q, vp_cell_q]
      unfold arrV
      congr 3
      funext j
      show va_rf ((R q (j.val : Int)).map ρ) = va_rf ((R' q (j.val : Int)).map ρ)
      rw [hall j.val j.isLt]
theorem hM_c {M : Id4 → Int → Int} {q : Id4} (n : Nat) (h : q.2.2.1 ≠ 0) : hM M n q = M q := hM_off n (fun m _ z => h (by rw [z]))
theorem M9_names (i e k : Int) : M9 (3, i, 11, e) k = 0 := by
  simp [M9, M8, setA, hM_c, updM, Z0]
theorem inv_start : INV M9 := by
  refine ⟨(S9, fun _ => 0, 0, fun _ _ => 0, (fun _ => 0, 0), 0, 0, -1), ⟨⟨⟨rfl, rfl, rfl⟩, fun e h1 h2 => ?_, fun k h1 h2 => ?_⟩, ⟨rfl, fun e h1 h2 => ?_⟩, fun e k _ _ _ _ => ?_, fun i _ _ => ⟨fun _ => rfl, fun h => ?_⟩, rfl, ⟨0, ⟨rfl, rfl, ⟨by omega, by omega⟩, by omega, by omega⟩, fun i h1 h2 => ?_⟩, ⟨rfl, rfl⟩, rfl, rfl, by decide, by decide⟩, ⟨rfl, rfl, rfl, ⟨⟨rfl, by omega, by omega⟩, fun i j h1 h2 => ?_⟩, ⟨rfl, rfl⟩, rfl, rfl, by decide, by decide⟩, ⟨⟨by decide, by decide, by decide, fun e h1 h2 => ?_, fun k h1 h2 => ?_⟩, fun j h1 h2 => ?_, fun i _ _ => ⟨Int.le_refl 0, (show (0 : Int) ≤ 255 by decide)⟩, ⟨by omega, by omega⟩, fun i h1 h2 => ?_, fun k h1 h2 => ?_⟩⟩
  · have : e < S9 1 := h2
    rw [show S9 1 = 0 from rfl] at this
    omega
  · have : k < S9 20 := h2
    rw [show S9 20 = 0 from rfl] at this
    omega
  · have : e < S9 1 := h2
    rw [show S9 1 = 0 from rfl] at this
    omega
  · rw [M9_names]
    omega
  · exact absurd (show (128 : Int) ≤ 0 from h) (by decide)
  · exact absurd h2 (by omega)
  · exact absurd h2 (by omega)
  · rw [show S9 1 = 0 from rfl] at h2
    omega
  · rw [show S9 20 = 0 from rfl] at h2
    omega
  · rw [show S9 j = 0 from if_neg (by omega)]
    omega
  · exact absurd h2 (by omega)
  · have : k < 0 := h2
    omega

theorem law_new {X : Cx} {G : Gx} {ρ0 : Id4 → Nat} {Q : State → Prop} (F : FB X G cL_law RL (some .boolean) 60 5000) (hk : G.2.2.2 = 9) (k : BW X G ρ0 0 218 23 (lvH 0) [] (M9, R9) 259 Q) : BW X G ρ0 0 0 0 [aR qS, aX, aX, aX, aX, aX, aX, aX, aX] [] (Z0, N0) 0 Q := by
  refine bw_new (q := (8, 0, 0, 0)) (w := 1) F dL_law_0 nc_8 cl_L_8 ni_8 df_8 (by decide +kernel) rfl (fun k => rfl) (fun k => rfl) ⟨fun x h => (by cases h; exact Or.inr qS_not), ⟨fun x h => (by cases h), ⟨fun x h => (by cases h), ⟨fun x h => (by cases h), ⟨fun x h => (by cases h), ⟨fun x h => (by cases h), ⟨fun x h => (by cases h), ⟨fun x h => (by cases h), ⟨fun x h => (by cases h), trivial⟩⟩⟩⟩⟩⟩⟩⟩⟩ trivial (by omega) (by decide) (by decide) ?_
  refine bw_dupR F dL_law_3 ?_
  refine bw_init F dL_law_4 mi_L_121 cn8_init ⟨fun x h => (by cases h; exact Or.inr qS_not), ⟨fun x h => (by cases h), ⟨fun x h => (by cases h), ⟨fun x h => (by cases h), ⟨fun x h => (by cases h), ⟨fun x h => (by cases h), ⟨fun x h => (by cases h), ⟨fun x h => (by cases h), ⟨fun x h => (by cases h), trivial⟩⟩⟩⟩⟩⟩⟩⟩⟩ ⟨fun x h => (by cases h; exact Or.inl (by decide +kernel)), trivial⟩ (Nat.le_of_ble_eq_true rfl) (by omega) (by omega) (by decide) (by decide) (fun σ9 h9 => ?_)
  subst h9
  refine bw_astore1 F dL_law_7 rfl hk.symm ?_
  refine bw_new (q := (9, 0, 0, 0)) (w := 1) F dL_law_8 nc_9 cl_L_122 ni_9 df_9 (by decide +kernel) rfl (fun k => rfl) (fun k => rfl) ⟨fun x h => (by cases h; exact Or.inr qS_not), ⟨fun x h => (by cases h; exact Or.inl (by decide +kernel)), ⟨fun x h => (by cases h), ⟨fun x h => (by cases h), ⟨fun x h => (by cases h), ⟨fun x h => (by cases h), ⟨fun x h => (by cases h), ⟨fun x h => (by cases h), ⟨fun x h => (by cases h), trivial⟩⟩⟩⟩⟩⟩⟩⟩⟩ trivial (by omega) (by decide) (by decide) ?_
  refine bw_dupR F dL_law_11 ?_
  refine bw_init F dL_law_12 mi_L_124 (cn9_init M8 R8 (fun c => by funext k; rfl) (by funext k; rfl)) ⟨fun x h => (by cases h; exact Or.inr qS_not), ⟨fun x h => (by cases h; exact Or.inl (by decide +kernel)), ⟨fun x h => (by cases h), ⟨fun x h => (by cases h), ⟨fun x h => (by cases h), ⟨fun x h => (by cases h), ⟨fun x h => (by cases h), ⟨fun x h => (by cases h), ⟨fun x h => (by cases h), trivial⟩⟩⟩⟩⟩⟩⟩⟩⟩ ⟨fun x h => (by cases h; exact Or.inl (by decide +kernel)), trivial⟩ (Nat.le_of_ble_eq_true rfl) (by omega) (by omega) (by decide) (by decide) (fun σ9 h9 => ?_)
  subst h9
  refine bw_astore2 F dL_law_15 rfl hk.symm ?_
  refine bw_iconst F dL_law_16 ?_
  refine bw_newa (q := (10, 0, 1, 0)) (N := 1) (w := 1) F dL_law_17 rfl (by decide) ac_4 (by decide +kernel) rfl (fun k => rfl) ⟨fun x h => (by cases h; exact Or.inr qS_not), ⟨fun x h => (by cases h; exact Or.inl (by decide +kernel)), ⟨fun x h => (by cases h; exact Or.inl (by decide +kernel)), ⟨fun x h => (by cases h), ⟨fun x h => (by cases h), ⟨fun x h => (by cases h), ⟨fun x h => (by cases h), ⟨fun x h => (by cases h), ⟨fun x h => (by cases h), trivial⟩⟩⟩⟩⟩⟩⟩⟩⟩ trivial (by omega) (by decide) (by decide) ?_
  refine bw_astore3 F dL_law_19 rfl hk.symm ?_
  refine bw_iconst F dL_law_20 ?_
  refine bw_istore4 F dL_law_21 rfl hk.symm ?_
  exact k
