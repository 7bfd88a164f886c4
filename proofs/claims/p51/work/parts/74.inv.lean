/-! 74: what is read is in order -/
theorem TX.at {B : Int → Int} {n i j : Int} (h : TX B n i) (h1 : i ≤ j) (h2 : j ≤ n) : TX B n j := ⟨h.1, h.2.1, by have := h.2.2.1; omega, h2⟩
theorem nx_gt {B : Int → Int} {n i : Int} (hi : i ≤ n) (hk : ¬ kdT B n i = 0) : i < nxT B n i := by
  have sb := stT_bd (B := B) hi
  by_cases z : n ≤ stT B n i
  · exact absurd (tk_e z).2 hk
  · have := tnS_gt (B := B) (n := n) (s := stT B n i) (by omega)
    unfold nxT
    omega
theorem nmU_ok {B S : Int → Int} {n i : Int} (hx : TX B n i) (hk : kdT B n i = 2) (hO : Ok S) (hN : NB S) : NB (nmU B S (stT B n i) (nxT B n i)) := by
  have lt := kd2_lt hx hk
  have hE := hO.2.1
  have b1 := cdI_bd (B := B) (a := stT B n i) (b := min (nxT B n i) (stT B n i + 4)) (fun k k0 k1 => lt.1 k k0 (by omega)) (by omega)
  have b2 := cdI_bd (B := B) (a := min (nxT B n i) (stT B n i + 4)) (b := nxT B n i) (fun k k0 k1 => lt.1 k (by omega) k1) (by omega)
  intro j j0 j1
  unfold nmU
  by_cases y : j = 2 + 2 * S 1 + 1
  · rw [y, upS_same]; exact b2
  · rw [upS_ne y]
    by_cases w : j = 2 + 2 * S 1
    · rw [w, upS_same]; exact b1
    · rw [upS_ne w]; exact hN j j0 j1
theorem evP_good {B S : Int → Int} {n i : Int} (hx : TX B n i) (hO : Ok S) (hN : NB S) (h : (evP B n S i).1 = 0) : ∃ v, (0 ≤ v ∧ v ≤ S 0 - 1) ∧ S 1 < 6 ∧ kdT B n (nxT B n i) = 2 ∧ nmD B S (stT B n (nxT B n i)) (nxT B n (nxT B n i)) = -1 ∧ evP B n S i = goodP (upS (upS (nmU B S (stT B n (nxT B n i)) (nxT B n (nxT B n i))) (14 + S 1) v) 1 (S 1 + 1)) (nxT B n (nxT B n (nxT B n i))) := by
  have hE := hO.2.1
  unfold evP at h ⊢
  by_cases z : S 1 = 6
  · rw [if_pos z] at h; exact absurd h (badP_ne (by decide))
  · rw [if_neg z] at h ⊢
    by_cases y : kdT B n (nxT B n i) = 2
    · rw [if_neg (fun w => w y)] at h ⊢
      by_cases x : nmD B S (stT B n (nxT B n i)) (nxT B n (nxT B n i)) = -1
      · rw [if_neg (fun w => w x)] at h ⊢
        by_cases g : (numP B n (14 + S 1) 0 (S 0 - 1) (nmU B S (stT B n (nxT B n i)) (nxT B n (nxT B n i))) (nxT B n (nxT B n i))).1 = 0
        · obtain ⟨v, hv, e⟩ := numP_ex g
          refine ⟨v, hv, by omega, y, x, ?_⟩
          rw [bind_good g, e]
          have e1 : upS (nmU B S (stT B n (nxT B n i)) (nxT B n (nxT B n i))) (14 + S 1) v 1 = S 1 := by
            unfold nmU
            rw [upS_ne (by omega), upS_ne (by omega), upS_ne (by omega)]
          show goodP (upS (upS (nmU B S (stT B n (nxT B n i)) (nxT B n (nxT B n i))) (14 + S 1) v) 1 (upS (nmU B S (stT B n (nxT B n i)) (nxT B n (nxT B n i))) (14 + S 1) v 1 + 1)) (nxT B n (nxT B n (nxT B n i))) = _
          rw [e1]
        · rw [bind_bad g] at h; exact absurd h g
      · rw [if_pos x] at h; exact absurd h (badP_ne (by decide))
    · rw [if_pos y] at h; exact absurd h (badP_ne (by decide))
theorem evP_inv {B S : Int → Int} {n i : Int} (hx : TX B n i) (hO : Ok S) (hN : NB S) (h : (evP B n S i).1 = 0) : Ok (evP B n S i).2.2.1 ∧ NB (evP B n S i).2.2.1 ∧ i ≤ (evP B n S i).2.2.2 := by
  obtain ⟨v, hv, h6, hk, -, e⟩ := evP_good hx hO hN h
  have hE := hO.2.1
  have x1 := hx.nx
  have x2 := x1.nx
  have n1 := nxT_bd (B := B) hx.2.2.2
  have n2 := nxT_bd (B := B) x1.2.2.2
  have n3 := nxT_bd (B := B) x2.2.2.2
  have hU := nmU_ok x1 hk hO hN
  rw [e]
  show Ok (upS (upS (nmU B S (stT B n (nxT B n i)) (nxT B n (nxT B n i))) (14 + S 1) v) 1 (S 1 + 1)) ∧ NB (upS (upS (nmU B S (stT B n (nxT B n i)) (nxT B n (nxT B n i))) (14 + S 1) v) 1 (S 1 + 1)) ∧ i ≤ nxT B n (nxT B n (nxT B n i))
  obtain ⟨S', hS'⟩ : ∃ S', S' = upS (upS (nmU B S (stT B n (nxT B n i)) (nxT B n (nxT B n i))) (14 + S 1) v) 1 (S 1 + 1) := ⟨_, rfl⟩
  rw [← hS']
  have f1 : S' 1 = S 1 + 1 := by rw [hS', upS_same]
  have fo : ∀ j, (j < 2 ∨ 14 ≤ j) → j ≠ 1 → j ≠ 14 + S 1 → S' j = S j := fun j j0 j1 j2 => by
    rw [hS', upS_ne j1, upS_ne j2]
    unfold nmU
    rw [upS_ne (by omega), upS_ne (by omega)]
  have f0 := fo 0 (by omega) (by omega) (by omega)
  have f20 := fo 20 (by omega) (by omega) (by omega)
  obtain ⟨a, b, c, d, g⟩ := hO
  refine ⟨⟨by omega, by omega, by omega, fun x x0 x1 => ?_, fun k k0 k1 => ?_⟩, fun j j0 j1 => ?_, by omega⟩
  · rw [f0]
    by_cases y : x = S 1
    · rw [y, hS', upS_ne (by omega), upS_same]; omega
    · rw [fo (14 + x) (by omega) (by omega) (by omega)]; exact d x x0 (by omega)
  · have z := g k k0 (by omega)
    have q : ∀ w, 0 ≤ w → w < 5 → S' (21 + 5 * k + w) = S (21 + 5 * k + w) := fun w w0 w1 => fo _ (by omega) (by omega) (by omega)
    unfold SpOk at z ⊢
    rw [f1, f0, q 0 (by decide) (by decide), q 1 (by decide) (by decide), q 2 (by decide) (by decide), q 3 (by decide) (by decide), q 4 (by decide) (by decide)]
    omega
  · rw [hS', upS_ne (by omega), upS_ne (by omega)]
    exact hU j j0 j1
theorem weP_ex {B S : Int → Int} {n idx i : Int} (hx : TX B n i) (h : (weP B n idx S i).1 = 0) : ∃ w j, (0 ≤ w ∧ w ≤ 20) ∧ i ≤ j ∧ j ≤ n ∧ weP B n idx S i = goodP (upS S idx w) j := by
  by_cases z : kdT B n i = 3
  · rw [weP_3 z] at h ⊢
    obtain ⟨v, hv, e⟩ := numP_ex h
    have := nxT_bd (B := B) hx.2.2.2
    exact ⟨v, nxT B n i, hv, this.1, this.2, by rw [e, upS_upS]⟩
  · rw [weP_0 z]
    exact ⟨1, i, by decide, Int.le_refl _, hx.2.2.2, rfl⟩
theorem bind_0 {r : PR} {f : (Int → Int) → Int → PR} (h : (bindP r f).1 = 0) : r.1 = 0 := Classical.byContradiction fun z => by
  rw [bind_bad z] at h
  exact z h
theorem spP_good {B S : Int → Int} {n i : Int} (hx : TX B n i) (hO : Ok S) (hN : NB S) (h : (spP B n S i).1 = 0) : ∃ e1 e2 lo hi w j, (0 ≤ e1 ∧ e1 < S 1) ∧ (0 ≤ e2 ∧ e2 < S 1 ∧ ¬ e2 = e1) ∧ (0 ≤ lo ∧ lo ≤ 48) ∧ (lo ≤ hi ∧ hi ≤ lo + S 0 - 1) ∧ (0 ≤ w ∧ w ≤ 20) ∧ S 20 < 14 ∧ (i ≤ j ∧ j ≤ n) ∧ spP B n S i = goodP (upS (upS (upS (upS (upS (upS S (21 + 5 * S 20 + 0) e1) (21 + 5 * S 20 + 1) e2) (21 + 5 * S 20 + 2) lo) (21 + 5 * S 20 + 3) hi) (21 + 5 * S 20 + 4) w) 20 (S 20 + 1)) j := by
  have hE := hO.2.1
  have hW := hO.2.2.1
  have x1 := hx.nx
  have x2 := x1.nx
  have x3 := x2.nx
  have x4 := x3.nx
  have x5 := x4.nx
  have n1 := nxT_bd (B := B) hx.2.2.2
  have n2 := nxT_bd (B := B) x1.2.2.2
  have n3 := nxT_bd (B := B) x2.2.2.2
  have n4 := nxT_bd (B := B) x3.2.2.2
  have n5 := nxT_bd (B := B) x4.2.2.2
  unfold spP at h ⊢
  by_cases z : S 20 = 14
  · rw [if_pos z] at h; exact absurd h (badP_ne (by decide))
  · rw [if_neg z] at h ⊢
    have g1 := bind_0 h
    obtain ⟨e1, p1, q1⟩ := evIn_ex g1
    rw [bind_good g1, q1] at h ⊢
    dsimp only [goodP] at h ⊢
    have g2 := bind_0 h
    obtain ⟨e2, p2, q2⟩ := evIn_ex g2
    rw [bind_good g2, q2] at h ⊢
    dsimp only [goodP] at h ⊢
    have g3 := bind_0 h
    obtain ⟨lo, p3, q3⟩ := numP_ex g3
    rw [bind_good g3, q3] at h ⊢
    dsimp only [goodP] at h ⊢
    have g4 := bind_0 h
    obtain ⟨hi, p4, q4⟩ := numP_ex g4
    rw [bind_good g4, q4] at h ⊢
    dsimp only [goodP] at h ⊢
    have g5 := bind_0 h
    obtain ⟨w, j, p5, j1, j2, q5⟩ := weP_ex x5 g5
    rw [bind_good g5, q5]
    dsimp only [goodP]
    rw [upS_same] at p2
    rw [upS_same, upS_ne (show (0 : Int) ≠ 21 + 5 * S 20 + 2 by omega), upS_ne (show (0 : Int) ≠ 21 + 5 * S 20 + 1 by omega), upS_ne (show (0 : Int) ≠ 21 + 5 * S 20 + 0 by omega)] at p4
    rw [upS_ne (show (1 : Int) ≠ 21 + 5 * S 20 + 0 by omega)] at p2
    refine ⟨e1, e2, lo, hi, w, j, ⟨p1.1, p1.2.1⟩, p2, p3, p4, p5, by omega, ⟨by omega, j2⟩, ?_⟩
    rw [upS_ne (show (20 : Int) ≠ 21 + 5 * S 20 + 4 by omega), upS_ne (show (20 : Int) ≠ 21 + 5 * S 20 + 3 by omega), upS_ne (show (20 : Int) ≠ 21 + 5 * S 20 + 2 by omega), upS_ne (show (20 : Int) ≠ 21 + 5 * S 20 + 1 by omega), upS_ne (show (20 : Int) ≠ 21 + 5 * S 20 + 0 by omega)]
theorem spP_inv {B S : Int → Int} {n i : Int} (hx : TX B n i) (hO : Ok S) (hN : NB S) (h : (spP B n S i).1 = 0) : Ok (spP B n S i).2.2.1 ∧ NB (spP B n S i).2.2.1 ∧ i ≤ (spP B n S i).2.2.2 := by
  obtain ⟨e1, e2, lo, hi, w, j, p1, p2, p3, p4, p5, h14, hj, e⟩ := spP_good hx hO hN h
  rw [e]
  show Ok (upS (upS (upS (upS (upS (upS S (21 + 5 * S 20 + 0) e1) (21 + 5 * S 20 + 1) e2) (21 + 5 * S 20 + 2) lo) (21 + 5 * S 20 + 3) hi) (21 + 5 * S 20 + 4) w) 20 (S 20 + 1)) ∧ NB (upS (upS (upS (upS (upS (upS S (21 + 5 * S 20 + 0) e1) (21 + 5 * S 20 + 1) e2) (21 + 5 * S 20 + 2) lo) (21 + 5 * S 20 + 3) hi) (21 + 5 * S 20 + 4) w) 20 (S 20 + 1)) ∧ i ≤ j
  have hE := hO.2.1
  have hW := hO.2.2.1
  have hT := hO.1
  have e9 : upS (upS (upS (upS (upS (upS S (21 + 5 * S 20 + 0) e1) (21 + 5 * S 20 + 1) e2) (21 + 5 * S 20 + 2) lo) (21 + 5 * S 20 + 3) hi) (21 + 5 * S 20 + 4) w) 20 (S 20 + 1) = apS S e1 e2 lo hi w := by
    funext x
    by_cases z : x = 20
    · rw [z, upS_same, apS_n hW.1]
    · rw [upS_ne z]
      unfold apS
      by_cases a4 : x = 21 + 5 * S 20 + 4
      · rw [a4, upS_same, upS_same]
      · rw [upS_ne a4, upS_ne a4]
        by_cases a3 : x = 21 + 5 * S 20 + 3
        · rw [a3, upS_same, upS_same]
        · rw [upS_ne a3, upS_ne a3]
          by_cases a2 : x = 21 + 5 * S 20 + 2
          · rw [a2, upS_same, upS_same]
          · rw [upS_ne a2, upS_ne a2]
            by_cases a1 : x = 21 + 5 * S 20 + 1
            · rw [a1, upS_same, upS_same]
            · rw [upS_ne a1, upS_ne a1]
              by_cases a0 : x = 21 + 5 * S 20 + 0
              · rw [a0, upS_same, upS_same]
              · rw [upS_ne a0, upS_ne a0, upS_ne z]
  refine ⟨?_, ((((((hN.up (by omega)).up (by omega)).up (by omega)).up (by omega)).up (by omega)).up (by omega)), hj.1⟩
  rw [e9]
  exact ok_ap hO p1 ⟨p2.1, p2.2.1⟩ (fun z => p2.2.2 z.symm) p3 p4 p5 h14
theorem stP1_inv {B S : Int → Int} {n i : Int} (hx : TX B n i) (hO : Ok S) (hN : NB S) (h : (stP1 B n S i).1 = 0) : Ok (stP1 B n S i).2.2.1 ∧ NB (stP1 B n S i).2.2.1 ∧ i ≤ (stP1 B n S i).2.2.2 := by
  unfold stP1 at h ⊢
  by_cases z : ¬ wdI B n i 1 = 0
  · rw [if_pos z] at h ⊢
    exact evP_inv hx hO hN h
  · rw [if_neg z] at h ⊢
    by_cases y : ¬ wdI B n i 2 = 0
    · rw [if_pos y] at h ⊢
      exact spP_inv hx hO hN h
    · rw [if_neg y] at h
      exact absurd h (badP_ne (by decide))
theorem row0_ok {S : Int → Int} : Ok (row0 S) ∧ NB (row0 S) := by
  have e : ∀ j, 0 ≤ j → j < 91 → row0 S j = if j = 0 then 12 else 0 := fun j j0 j1 => if_pos ⟨j0, j1⟩
  have e0 : row0 S 0 = 12 := e 0 (by decide) (by decide)
  have e1 : row0 S 1 = 0 := e 1 (by decide) (by decide)
  have e2 : row0 S 20 = 0 := e 20 (by decide) (by decide)
  refine ⟨⟨by omega, by omega, by omega, fun x x0 x1 => by omega, fun k k0 k1 => by omega⟩, fun j j0 j1 => ?_⟩
  rw [e j (by omega) (by omega), if_neg (by omega)]
  omega
theorem perP_inv {B S : Int → Int} {n i : Int} (hx : TX B n i) (hO : Ok S) (hN : NB S) (h1 : S 1 = 0) (h2 : S 20 = 0) (h : (perP B n S i).1 = 0) : Ok (perP B n S i).2.2.1 ∧ NB (perP B n S i).2.2.1 ∧ i ≤ (perP B n S i).2.2.2 ∧ (perP B n S i).2.2.2 ≤ n := by
  have n1 := nxT_bd (B := B) hx.2.2.2
  have n2 := nxT_bd (B := B) n1.2
  unfold perP at h ⊢
  by_cases z : wdI B n i 0 = 0
  · rw [if_pos z] at h; exact absurd h (badP_ne (by decide))
  · rw [if_neg z] at h ⊢
    obtain ⟨v, hv, e⟩ := numP_ex h
    rw [e]
    show Ok (upS S 0 v) ∧ NB (upS S 0 v) ∧ i ≤ nxT B n (nxT B n i) ∧ nxT B n (nxT B n i) ≤ n
    have f0 : upS S 0 v 0 = v := upS_same
    have f1 : upS S 0 v 1 = 0 := by rw [upS_ne (by decide)]; exact h1
    have f2 : upS S 0 v 20 = 0 := by rw [upS_ne (by decide)]; exact h2
    refine ⟨⟨by omega, by omega, by omega, fun x x0 x1 => by omega, fun k k0 k1 => by omega⟩, fun j j0 j1 => ?_, by omega, n2.2⟩
    rw [upS_ne (by omega)]
    exact hN j j0 j1
theorem closP_ex {B S : Int → Int} {n i : Int} (hx : TX B n i) (h : (closP B n S i).1 = 0) : closP B n S i = goodP S (nxT B n i) ∧ i < nxT B n i ∧ nxT B n i ≤ n := by
  obtain ⟨a, b⟩ := closP_good h
  exact ⟨a, nx_gt hx.2.2.2 (by omega), (nxT_bd (B := B) hx.2.2.2).2⟩
