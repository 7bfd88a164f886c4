/-! 9h: the other operations, on both sides -/
theorem op_meanSlack (M : Id4 → Int → Int) (b : Bool) (st : ST) (h8 : I8 M st) (hp : PUs st) : ∃ V, Jvm.FP.Core.val32 V ≠ .nan ∧ CtF 5 0 yX8_meanSlack cX8_meanSlack 2 (some .float) [aR (8, 0, 0, 0)] (M, R0 b) (fun v σ' => ∃ M', σ' = (M', R0 b) ∧ I8 M' st ∧ F9 M M' ∧ v = V) ∧ ∀ M' b', I9 M' st → CtF 6 0 yX9_meanSlack cX9_meanSlack 1 (some .float) [aR (9, 0, 0, 0)] (M', R0 b') (fun v σ' => ∃ M2, σ' = (M2, R0 b') ∧ I9 M2 st ∧ F8 M' M2 ∧ v = V) := by
  obtain ⟨S, B, n, Hs, p, bf, ek, ep⟩ := st
  refine ⟨mnS S, mnS_val hp.1, (ct8_meanSlack M b S h8.1 hp.1).mono (fun v σ' h => ?_), fun M' b' hI => (cq9_meanSlack M' b' S hI.1 hp.1).mono (fun v σ' h => ?_)⟩
  · exact ⟨M, h.2, h8, F9.rf, h.1⟩
  · obtain ⟨hv, M2, rfl, hs⟩ := h
    exact ⟨M2, rfl, hI.s9 hs, hs.f8, hv⟩
theorem op_isTight (M : Id4 → Int → Int) (b : Bool) (st : ST) (h8 : I8 M st) (hp : PUs st) : ∃ V st', PUs st' ∧ CtI 6 0 yX8_isTight cX8_isTight 1 (some .boolean) [aR (8, 0, 0, 0)] (M, R0 b) (AP8 M b V st') ∧ ∀ M' b', I9 M' st → CtI 8 0 yX9_isTight cX9_isTight 1 (some .boolean) [aR (9, 0, 0, 0)] (M', R0 b') (AR9 M' b' 0 V st') := by
  obtain ⟨S, B, n, Hs, p, bf, ek, ep⟩ := st
  have hO : Ok S := hp.1
  obtain ⟨V, hV⟩ : ∃ V : Int, ∀ v, isB v (¬ emp (S 1) (tgS S)) → v = V := by
    by_cases z : ¬ emp (S 1) (tgS S)
    · exact ⟨1, fun v h => h.elim (fun y => absurd z y.2) (fun y => y.1)⟩
    · exact ⟨0, fun v h => h.elim (fun y => y.1) (fun y => absurd y.2 z)⟩
  refine ⟨V, (S, B, n, Hs, p, bf, ek, ep), hp, (ct8_isTight M b S h8.1 hO).mono (fun v σ' h => q_plain h8 ⟨hV v h.1, h.2⟩), fun M' b' hI => ?_⟩
  have z := cq9_isTight M' b' (by rw [show M' (9, 0, 1, 0) = S from hI.1]; exact hO)
  rw [show M' (9, 0, 1, 0) = S from hI.1] at z
  refine z.mono (fun v σ' h => ?_)
  obtain ⟨h1, h2⟩ := h
  obtain ⟨M2, e, i, f, t, w⟩ := q_ref hI h2
  exact ⟨M2, e, i, f, t, fun _ => hV v h1⟩
theorem op_feed (M : Id4 → Int → Int) (b : Bool) (st : ST) (x1 x2 x3 x4 x5 : Int) (h8 : I8 M st) (hp : PUs st) : ∃ V st', PUs st' ∧ CtI 2 0 yX8_feed cX8_feed 6 (some .int) [aR (8, 0, 0, 0), aI x1, aI x2, aI x3, aI x4, aI x5] (M, R0 b) (AP8 M b V st') ∧ ∀ M' b', I9 M' st → CtI 2 0 yX9_feed cX9_feed 6 (some .int) [aR (9, 0, 0, 0), aI x1, aI x2, aI x3, aI x4, aI x5] (M', R0 b') (AR9 M' b' 0 V st') := by
  obtain ⟨S, B, n, Hs, p, bf, ek, ep⟩ := st
  obtain ⟨h1, h2, h3, h4, h5, h6, h7, h9⟩ := h8
  obtain ⟨u1, u2, u3, u4, u5, u6⟩ := hp
  refine ⟨if 480 < bf then -2 else bf + 20, if 480 < bf then (S, B, n, Hs, p, bf, ek, ep) else (S, F20 B bf x1 x2 x3 x4 x5, n, Hs, p, bf + 20, ek, ep), ?_, (ct8_feed M b bf x1 x2 x3 x4 x5 h5 u4).mono (fun v σ' h => ?_), fun M' b' hI => ?_⟩
  · split
    · exact ⟨u1, u2, u3, u4, u5, u6⟩
    · exact ⟨u1, u2, (bc_20 h4 u3).2, by omega, u5, u6⟩
  · obtain ⟨M2, rfl, hk, hc⟩ := h
    have keep : ∀ q, q ≠ (8, 0, 1, 0) → q ≠ (8, 0, 0, 0) → M2 q = M q := fun q a c => funext fun k => hk q k (fun z => z.elim a (fun y => c y.1))
    have f9 : F9 M M2 := fun q hq => keep q (fun z => by rw [z] at hq; exact absurd hq (by decide)) (fun z => by rw [z] at hq; exact absurd hq (by decide))
    have base : ∀ B' bf', BC B' M2 → M2 (8, 0, 0, 0) 1 = bf' → I8 M2 (S, B', n, Hs, p, bf', ek, ep) := fun B' bf' a c => by
      obtain ⟨nx, hH⟩ := h6
      exact ⟨pl_eq (fun c => keep _ (by simp) (by simp)) h1, ⟨by rw [keep _ (by simp) (by simp)]; exact h2.1, fun e e0 e1 => by rw [keep (3, 0, 11, e) (by simp) (by simp), keep (3, 0, 2, 0) (by simp) (by simp)]; exact h2.2 e e0 e1⟩, fun e k e0 e1 k0 k1 => by rw [keep (3, 1, 11, e) (by simp) (by simp)]; exact h3 e k e0 e1 k0 k1, a, c, ⟨nx, hH.chg (keep _ (by simp) (by simp)) (fun q c hq => keep _ (by simp) (by simp))⟩, ⟨by rw [keep _ (by simp) (by simp)]; exact h7.1, by rw [keep _ (by simp) (by simp)]; exact h7.2⟩, ⟨by rw [keep _ (by simp) (by simp)]; exact h9.1, by rw [keep _ (by simp) (by simp)]; exact h9.2.1, h9.2.2⟩⟩
    rcases hc with ⟨z, rfl, b1, b2⟩ | ⟨z, rfl, b1, b2⟩
    · exact ⟨M2, rfl, by rw [if_pos z]; exact base B bf (fun i i0 i1 => by rw [b2]; exact h4 i i0 i1) b1, f9, (if_pos z).symm⟩
    · exact ⟨M2, rfl, by rw [if_neg (by omega)]; exact base _ _ (fun i i0 i1 => by rw [b2]; exact (bc_20 h4 u3).1 i i0 i1) b1, f9, (if_neg (by omega)).symm⟩
  · refine (cq9_feed M' b' bf x1 x2 x3 x4 x5 hI.2.2.1 u4).mono (fun v σ' h => ?_)
    obtain ⟨M2, rfl, hk, ht, hc⟩ := h
    obtain ⟨g1, g2, g3, g4, ⟨g5, g6⟩, g7⟩ := hI
    have f8 : F8 M' M2 := fun q hq => funext fun k => hk q k (fun z => z.elim (fun y => hq (by rw [y])) (fun y => hq (by rw [y.1])))
    have base : ∀ B' bf', M2 (9, 0, 6, 0) = B' → M2 (9, 0, 0, 0) 6 = bf' → I9 M2 (S, B', n, Hs, p, bf', ek, ep) := fun B' bf' a c => ⟨(funext fun k => hk _ k (by simp) : M2 (9, 0, 1, 0) = M' (9, 0, 1, 0)).trans g1, a, c, ⟨⟨(hk _ _ (by simp)).trans g4.1.1, g4.1.2⟩, fun i j i0 i1 j0 j1 => (hk _ _ (by simp)).trans (g4.2 i j i0 i1 j0 j1)⟩, ⟨(hk _ _ (by simp)).trans g5, (hk _ _ (by simp)).trans g6⟩, ⟨(funext fun k => hk _ k (by simp) : M2 (9, 0, 33, 0) = M' (9, 0, 33, 0)).trans g7.1, (hk _ _ (by simp)).trans g7.2.1, g7.2.2⟩⟩
    rcases hc with ⟨z, rfl, b1, b2⟩ | ⟨z, rfl, b1, b2⟩
    · exact ⟨M2, rfl, by rw [if_pos z]; exact base B bf (b2.trans g2) b1, f8, ht, fun _ => (if_pos z).symm⟩
    · exact ⟨M2, rfl, by rw [if_neg (by omega)]; exact base _ _ (by rw [b2, g2]) b1, f8, ht, fun _ => (if_neg (by omega)).symm⟩
theorem op_find (M : Id4 → Int → Int) (b : Bool) (st : ST) (e : Int) (he : inR e) (h8 : I8 M st) (hp : PUs st) : ∃ U t V st', U ≤ 8 ∧ (0 ≤ t ∧ t ≤ 3) ∧ PUs st' ∧ CtH 14 U yL_find cL_find 4 (some .int) [(0, 9, 12, 13)] [aR (8, 0, 0, 0), aI e, aR (10, 0, 1, 0)] (M, R0 b) (AW8 M t V st') ∧ ∀ M' b', I9 M' st → CtI 4 0 yX9_find cX9_find 4 (some .int) [aR (9, 0, 0, 0), aI e] (M', R0 b') (AR9 M' b' t V st') := by
  obtain ⟨S, B, n, Hs, p, bf, ek, ep⟩ := st
  have hO : Ok S := hp.1
  have hE := hO.2.1
  have u4 := hp.2.2.2.1
  have h80 := h8
  obtain ⟨h1, h2, h3, h4, h5, h6, h7, h9⟩ := h8
  refine ⟨1, 1 - b2i (0 ≤ e ∧ e ≤ bf), fdS B S e, swt (1 - b2i (0 ≤ e ∧ e ≤ bf)) (S, B, n, Hs, p, 0, ek, ep) (S, B, n, Hs, p, bf, ek, ep), by decide, (by first | exact t1b | exact t2b | exact t3b | decide | omega), ?_, ?_, fun M' b' hI => ?_⟩
  · by_cases z : 0 ≤ e ∧ e ≤ bf
    · rw [swt0 (t1y z)]
      exact ⟨hO, hp.2.1, hp.2.2.1, by omega, hp.2.2.2.2⟩
    · rw [swt1 (by rw [t1n z]; decide)]
      exact hp
  · refine (ch_find M (R0 b) e (cx8_find M b B S e bf he h4 hp.2.2.1 h2 hE h5 u4) (fun E σ' h => ?_)).mono (fun r σ' hq => ?_)
    · obtain ⟨rfl, -⟩ := h
      exact List.mem_cons_self
    · rcases hq with ⟨rfl, v, M1, R1, ⟨hc, rfl, hs⟩, rfl⟩ | ⟨j, E, hj, rfl, -, rfl, hc⟩
      · cases hs
        rw [t1y hc, swt0 rfl]
        have kp : ∀ q, q ≠ (8, 0, 0, 0) → updM M (8, 0, 0, 0) 1 0 q = M q := fun q hq => upd_off hq
        refine ⟨_, b, rfl, I8.out ?_, (F9.rf.up (by decide)).up (by decide), rfl, fun _ => upd_same⟩
        obtain ⟨nx, hH⟩ := h6
        exact ⟨pl_eq (fun c => kp _ (by simp)) h1, ⟨by rw [kp _ (by simp)]; exact h2.1, fun e e0 e1 => by rw [kp (3, 0, 11, e) (by simp), kp (3, 0, 2, 0) (by simp)]; exact h2.2 e e0 e1⟩, fun e k e0 e1 k0 k1 => by rw [kp (3, 1, 11, e) (by simp)]; exact h3 e k e0 e1 k0 k1, fun i i0 i1 => by rw [kp (8, 0, 1, 0) (by simp)]; exact h4 i i0 i1, upd_same, ⟨nx, hH.chg (kp _ (by simp)) (fun q c hq => kp _ (by simp))⟩, ⟨by rw [kp _ (by simp)]; exact h7.1, by rw [kp _ (by simp)]; exact h7.2⟩, ⟨by rw [kp _ (by simp)]; exact h9.1, by rw [kp _ (by simp)]; exact h9.2.1, h9.2.2⟩⟩
      · obtain ⟨rfl, -⟩ := nm1 hj
        rw [t1n hc, swt1 (by decide)]
        exact ⟨M, b, rfl, h80, F9.rf, rfl, fun z => absurd z (by decide)⟩
  · have g3 : M' (9, 0, 0, 0) 6 = bf := hI.2.2.1
    have z := cq9_find M' b' B S e he hI.2.1 hp.2.2.1 hI.1 hO hp.2.1 (by rw [g3]; exact u4)
    rw [g3] at z
    refine z.mono (fun v σ' h => ?_)
    rcases h with ⟨hc, rfl⟩ | ⟨hc, rfl, rfl⟩
    · rw [t1n hc, swt1 (by decide)]
      exact ⟨_, rfl, hI.s9 same9_thr, same9_thr.f8, upd_same, fun z => absurd z (by decide)⟩
    · rw [t1y hc, swt0 rfl]
      obtain ⟨g1, g2, -, g4, ⟨g5, g6⟩, g7⟩ := hI.s9 (same9_thr (t := 0))
      have e6 : ∀ q k, ¬ (q = (9, 0, 0, 0) ∧ k = 6) → updM (thr M' 0) (9, 0, 0, 0) 6 0 q k = thr M' 0 q k := fun q k y => if_neg y
      refine ⟨_, rfl, ⟨(funext fun k => e6 _ k (by simp) : updM (thr M' 0) (9, 0, 0, 0) 6 0 (9, 0, 1, 0) = thr M' 0 (9, 0, 1, 0)).trans g1, (funext fun k => e6 _ k (by simp) : updM (thr M' 0) (9, 0, 0, 0) 6 0 (9, 0, 6, 0) = thr M' 0 (9, 0, 6, 0)).trans g2, upd_same, ⟨⟨(e6 _ _ (by simp)).trans g4.1.1, g4.1.2⟩, fun i j i0 i1 j0 j1 => (e6 _ _ (by simp)).trans (g4.2 i j i0 i1 j0 j1)⟩, ⟨(e6 _ _ (by simp)).trans g5, (e6 _ _ (by simp)).trans g6⟩, ⟨(funext fun k => e6 _ k (by simp) : updM (thr M' 0) (9, 0, 0, 0) 6 0 (9, 0, 33, 0) = thr M' 0 (9, 0, 33, 0)).trans g7.1, (e6 _ _ (by simp)).trans g7.2.1, g7.2.2⟩⟩, fun q hq => (upd_off (fun y => hq (by rw [y]))).trans (upd_off (fun y => hq (by rw [y]))), (e6 _ _ (by simp)).trans upd_same, fun _ => rfl⟩
theorem prs_inv {B S : Int → Int} {n : Int} (hy : BY B) (hn : 0 ≤ n ∧ n ≤ 500) (h : (prsP B S n).1 = 0) : Ok (prsP B S n).2.2.1 ∧ NB (prsP B S n).2.2.1 := by
  have hx : TX B n 0 := ⟨hy, by omega, by omega, by omega⟩
  have loop : ∀ (f : Nat) (S : Int → Int) (i : Int), TX B n i → Ok S → NB S → (stsP B n f S i).1 = 0 → Ok (stsP B n f S i).2.2.1 ∧ NB (stsP B n f S i).2.2.1 := by
    intro f
    induction f with
    | zero => intro S i hx hO hN h; exact ⟨hO, hN⟩
    | succ f ih =>
      intro S i hx hO hN h
      unfold stsP at h ⊢
      by_cases z : kdT B n i = 0
      · rw [if_pos z]
        exact ⟨hO, hN⟩
      · rw [if_neg z] at h ⊢
        have g1 := bind_0 h
        rw [bind_good g1] at h ⊢
        have iv := stP1_inv hx hO hN g1
        have q1 := bind_0 h
        have xj : TX B n (stP1 B n S i).2.2.2 := hx.at iv.2.2 (by have := kd_lt (B := B) (n := n) (j := (stP1 B n S i).2.2.2) (by have := (closP_good q1).2; omega); omega)
        obtain ⟨ce, c1, c2⟩ := closP_ex xj q1
        rw [bind_good q1] at h ⊢
        rw [ce] at h ⊢
        exact ih _ _ xj.nx iv.1 iv.2.1 h
  unfold prsP at h ⊢
  by_cases z : kdT B n 0 = 0
  · rw [if_pos z]
    exact row0_ok
  · rw [if_neg z] at h ⊢
    have g := bind_0 h
    have g0 := bind_0 g
    have iv := perP_inv hx row0_ok.1 row0_ok.2 (S := row0 S) rfl rfl g0
    have e : bindP (perP B n (row0 S) 0) (closP B n) = closP B n (perP B n (row0 S) 0).2.2.1 (perP B n (row0 S) 0).2.2.2 := bind_good g0
    rw [bind_good g] at h ⊢
    rw [e] at h g ⊢
    have xj : TX B n (perP B n (row0 S) 0).2.2.2 := hx.at iv.2.2.1 iv.2.2.2
    obtain ⟨ce, c1, c2⟩ := closP_ex xj g
    rw [ce] at h ⊢
    exact loop 500 _ _ xj.nx iv.1 iv.2.1 h
theorem plR_eq {M : Id4 → Int → Int} {p : Int} {S S' : Int → Int} (h : ∀ j, 0 ≤ j → j < 91 → S' j = S j) (hO : Ok S) (hR : plR M p S) : plR M p S' := by
  have hE := hO.2.1
  have hN := hO.2.2.1
  obtain ⟨⟨a, b, c⟩, d, e⟩ := hR
  have e1 := h 1 (by decide) (by decide)
  have e20 := h 20 (by decide) (by decide)
  refine ⟨⟨by rw [h 0 (by decide) (by decide)]; exact a, by rw [e1]; exact b, by rw [e20]; exact c⟩, fun x x0 x1 => by rw [h (14 + x) (by omega) (by omega)]; exact d x x0 (by omega), fun k k0 k1 => ?_⟩
  have := e k k0 (by omega)
  rw [h (21 + 5 * k + 0) (by omega) (by omega), h (21 + 5 * k + 1) (by omega) (by omega), h (21 + 5 * k + 2) (by omega) (by omega), h (21 + 5 * k + 3) (by omega) (by omega), h (21 + 5 * k + 4) (by omega) (by omega)]
  exact this
theorem I8.row {M : Id4 → Int → Int} {S S' B : Int → Int} {n : Int} {Hs : Int → Int → Int} {p : Pg} {bf ek ep : Int} (h : ∀ j, 0 ≤ j → j < 91 → S' j = S j) (hO : Ok S) (hI : I8 M (S, B, n, Hs, p, bf, ek, ep)) : I8 M (S', B, n, Hs, p, bf, ek, ep) := by
  obtain ⟨h1, h2, h3⟩ := hI
  exact ⟨plR_eq h hO h1, NmR.q (fun j a b => h j (by omega) (by omega)) hO.2.1 h2, h3⟩
theorem PUs.row {S S' B : Int → Int} {n : Int} {Hs : Int → Int → Int} {p : Pg} {bf ek ep : Int} (h : ∀ j, 0 ≤ j → j < 91 → S' j = S j) (hp : PUs (S, B, n, Hs, p, bf, ek, ep)) : PUs (S', B, n, Hs, p, bf, ek, ep) := by
  obtain ⟨h1, h2, h3, h4, h5, h6⟩ := hp
  exact ⟨Ok_eq h h1, fun j a b => by rw [h j (by omega) (by omega)]; exact h2 j a b, h3, h4, fun i i0 i1 => ⟨(h5 i i0 i1).1, fun j a b => by rw [h j (by omega) (by omega)]; exact (h5 i i0 i1).2 j a b⟩, h6⟩
theorem sameL.f9 {M M' : Id4 → Int → Int} (h : sameL M M') : F9 M M' := fun q hq => h q (fun y => by
  rcases y with y | y | y | y | y
  · omega
  · omega
  · omega
  · rw [y] at hq; exact absurd hq (by decide)
  · rw [y] at hq; exact absurd hq (by decide))
def AL9 (M : Id4 → Int → Int) (b : Bool) (t V : Int) (st : ST) (v : Int) (σ' : Hp) : Prop := ∃ M' st2, σ' = (M', R0 b) ∧ I9 M' st2 ∧ PUs st2 ∧ (∀ M8, I8 M8 st → I8 M8 st2) ∧ F8 M M' ∧ M' (9, 0, 0, 0) 4 = t ∧ (t = 0 → v = V)
theorem AR9.l {M : Id4 → Int → Int} {b : Bool} {t V : Int} {st : ST} {v : Int} {σ' : Hp} (hp : PUs st) (h : AR9 M b t V st v σ') : AL9 M b t V st v σ' := by
  obtain ⟨M', e, i, f, h4, h5⟩ := h
  exact ⟨M', st, e, i, hp, fun _ z => z, f, h4, h5⟩
theorem op_load (M : Id4 → Int → Int) (b : Bool) (st : ST) (e : Int) (he : inR e) (h8 : I8 M st) (hp : PUs st) : ∃ U t V st', U ≤ 8 ∧ (0 ≤ t ∧ t ≤ 3) ∧ PUs st' ∧ CtH 14 U yL_load cL_load 4 (some .int) [(0, 9, 12, 13)] [aR (8, 0, 0, 0), aI e, aR (10, 0, 1, 0)] (M, R0 b) (AW8 M t V st') ∧ ∀ M' b', I9 M' st → CtI 8 0 yX9_load cX9_load 3 (some .int) [aR (9, 0, 0, 0), aI e] (M', R0 b') (AL9 M' b' t V st') := by
  obtain ⟨S, B, n, Hs, p, bf, ek, ep⟩ := st
  have hO : Ok S := hp.1
  have hy := hp.2.2.1
  have u4 := hp.2.2.2.1
  have h80 := h8
  have hp0 := hp
  obtain ⟨h1, h2, h3, h4, h5, ⟨nx, h6⟩, h7, h9⟩ := h8
  by_cases z : 0 ≤ e ∧ e ≤ bf
  · have hx : 0 ≤ e ∧ e ≤ 500 := by omega
    by_cases g : (prsP B S e).1 = 0
    · obtain ⟨ok, nb⟩ := prs_inv hy hx g
      refine ⟨1, 0, (prsP B S e).2.2.1 20, ((prsP B S e).2.2.1, B, 0, Hs, p, 0, 0, -1), by decide, (by first | exact t1b | exact t2b | exact t3b | decide | omega), ⟨ok, nb, hy, by omega, fun i i0 i1 => absurd i1 (by omega), hp.2.2.2.2.2⟩, ?_, fun M' b' hI => ?_⟩
      · refine (ch_load M (R0 b) e (cx8_load M b B S e bf he h4 hy h3 h5 u4 (fun _ _ => ok)) (fun E σ' h => ?_)).mono (fun r σ' hq => ?_)
        · obtain ⟨rfl, -⟩ := h
          exact List.mem_cons_self
        · rcases hq with ⟨rfl, v, M1, R1, ⟨-, M2, hs, sl, b1, nmb, hc⟩, rfl⟩ | ⟨j, E, hj, rfl, -, -, hc⟩
          · cases hs
            rcases hc with ⟨-, rfl, c2, c3, c4, c5, c6, c7⟩ | ⟨hc, -⟩
            · refine ⟨_, true, rfl, I8.out ⟨c2, c3, nmb, fun i i0 i1 => by rw [sl (8, 0, 1, 0) (by simp)]; exact h4 i i0 i1, b1, ⟨nx, ⟨c5.trans h6.1.1, c4, h6.1.2.2.1, by omega⟩, fun i i0 i1 => absurd i1 (by omega)⟩, ⟨c6, c7⟩, ⟨by rw [sl (4, 0, 1, 0) (by simp)]; exact h9.1, by rw [sl (4, 0, 0, 0) (by simp)]; exact h9.2.1, h9.2.2⟩⟩, F9.up (by decide) sl.f9, rfl, fun _ => upd_same⟩
            · exact absurd g hc
          · exact absurd z hc
      · have g3 : M' (9, 0, 0, 0) 6 = bf := hI.2.2.1
        have w := cq9_load M' b' B S e he hI.2.1 hy hI.1 (by rw [g3]; exact u4)
        rw [g3] at w
        refine w.mono (fun v σ' h => ?_)
        rcases h with ⟨hc, -⟩ | ⟨-, M2, rfl, kp, t4, b6, hc⟩
        · exact absurd z hc
        · rcases hc with ⟨-, rfl, c2, c3, c4, c5⟩ | ⟨hc, -⟩
          · exact (AR9.l (st := ((prsP B S e).2.2.1, B, 0, Hs, p, 0, 0, -1)) ⟨ok, nb, hy, by omega, fun i i0 i1 => absurd i1 (by omega), hp0.2.2.2.2.2⟩ ⟨M2, rfl, ⟨c2, (funext fun k => kp _ k (by unfold scr9; simp) : M2 (9, 0, 6, 0) = M' (9, 0, 6, 0)).trans hI.2.1, b6, ⟨⟨c3, by omega⟩, fun i j i0 i1 => absurd i1 (by omega)⟩, ⟨c4, c5⟩, ⟨(funext fun k => kp _ k (by unfold scr9; simp) : M2 (9, 0, 33, 0) = M' (9, 0, 33, 0)).trans hI.2.2.2.2.2.1, (kp _ _ (by unfold scr9; simp)).trans hI.2.2.2.2.2.2.1, hI.2.2.2.2.2.2.2⟩⟩, fun q hq => funext fun k => kp q k (fun y => by
              rcases y with y | y | y
              · exact hq y.1
              · exact hq (by rw [y])
              · exact hq (by rw [y.1])), t4, fun _ => rfl⟩)
          · exact absurd g hc
    · refine ⟨1, 0, -3, (S, B, n, Hs, p, 0, (prsP B S e).1, (prsP B S e).2.1), by decide, (by first | exact t1b | exact t2b | exact t3b | decide | omega), ⟨hO, hp.2.1, hy, by omega, hp.2.2.2.2⟩, ?_, fun M' b' hI => ?_⟩
      · refine (ch_load M (R0 b) e (cx8_load M b B S e bf he h4 hy h3 h5 u4 (fun _ y => absurd y g)) (fun E σ' h => ?_)).mono (fun r σ' hq => ?_)
        · obtain ⟨rfl, -⟩ := h
          exact List.mem_cons_self
        · rcases hq with ⟨rfl, v, M1, R1, ⟨-, M2, hs, sl, b1, nmb, hc⟩, rfl⟩ | ⟨j, E, hj, rfl, -, -, hc⟩
          · cases hs
            rcases hc with ⟨hc, -⟩ | ⟨-, rfl, kp, c6, c7⟩
            · exact absurd hc g
            · refine ⟨_, true, rfl, I8.out ⟨pl_eq (fun c => kp _ (by simp) (by simp)) h1, ⟨by rw [kp _ (by simp) (by simp)]; exact h2.1, fun e e0 e1 => by rw [kp (3, 0, 11, e) (by simp) (by simp), kp (3, 0, 2, 0) (by simp) (by simp)]; exact h2.2 e e0 e1⟩, nmb, fun i i0 i1 => by rw [kp (8, 0, 1, 0) (by simp) (by simp)]; exact h4 i i0 i1, b1, ⟨nx, h6.chg (kp _ (by simp) (by simp)) (fun q c hq => kp _ (by simp; omega) (by simp))⟩, ⟨c6, c7⟩, ⟨by rw [kp (4, 0, 1, 0) (by simp) (by simp)]; exact h9.1, by rw [kp (4, 0, 0, 0) (by simp) (by simp)]; exact h9.2.1, h9.2.2⟩⟩, F9.up (by decide) sl.f9, rfl, fun _ => upd_same⟩
          · exact absurd z hc
      · have g3 : M' (9, 0, 0, 0) 6 = bf := hI.2.2.1
        have w := cq9_load M' b' B S e he hI.2.1 hy hI.1 (by rw [g3]; exact u4)
        rw [g3] at w
        refine w.mono (fun v σ' h => ?_)
        rcases h with ⟨hc, -⟩ | ⟨-, M2, rfl, kp, t4, b6, hc⟩
        · exact absurd z hc
        · rcases hc with ⟨hc, -⟩ | ⟨-, rfl, c2, c3, c4, c5⟩
          · exact absurd hc g
          · have hH := hI.2.2.2.1
            exact ⟨M2, (M2 (9, 0, 1, 0), B, n, Hs, p, 0, (prsP B S e).1, (prsP B S e).2.1), rfl, ⟨rfl, (funext fun k => kp _ k (by unfold scr9; simp) : M2 (9, 0, 6, 0) = M' (9, 0, 6, 0)).trans hI.2.1, b6, ⟨⟨c3.trans hH.1.1, hH.1.2⟩, fun i j i0 i1 j0 j1 => (kp _ _ (by unfold scr9; simp)).trans (hH.2 i j i0 i1 j0 j1)⟩, ⟨c4, c5⟩, ⟨(funext fun k => kp _ k (by unfold scr9; simp) : M2 (9, 0, 33, 0) = M' (9, 0, 33, 0)).trans hI.2.2.2.2.2.1, (kp _ _ (by unfold scr9; simp)).trans hI.2.2.2.2.2.2.1, hI.2.2.2.2.2.2.2⟩⟩, PUs.row c2 ⟨hO, hp0.2.1, hy, by omega, hp0.2.2.2.2⟩, fun M8 i8 => i8.row c2 hO, fun q hq => funext fun k => kp q k (fun y => by
              rcases y with y | y | y
              · exact hq y.1
              · exact hq (by rw [y])
              · exact hq (by rw [y.1])), t4, fun _ => rfl⟩
  · refine ⟨1, 1, 0, (S, B, n, Hs, p, bf, ek, ep), by decide, (by first | exact t1b | exact t2b | exact t3b | decide | omega), hp0, ?_, fun M' b' hI => ?_⟩
    · refine (ch_load M (R0 b) e (cx8_load M b B S e bf he h4 hy h3 h5 u4 (fun y => absurd y z)) (fun E σ' h => ?_)).mono (fun r σ' hq => ?_)
      · obtain ⟨rfl, -⟩ := h
        exact List.mem_cons_self
      · rcases hq with ⟨rfl, v, M1, R1, ⟨hc, -⟩, rfl⟩ | ⟨j, E, hj, rfl, -, rfl, hc⟩
        · exact absurd hc z
        · obtain ⟨rfl, -⟩ := nm1 hj
          exact ⟨M, b, rfl, h80, F9.rf, rfl, fun y => absurd y (by decide)⟩
    · have g3 : M' (9, 0, 0, 0) 6 = bf := hI.2.2.1
      have w := cq9_load M' b' B S e he hI.2.1 hy hI.1 (by rw [g3]; exact u4)
      rw [g3] at w
      refine w.mono (fun v σ' h => ?_)
      rcases h with ⟨hc, rfl⟩ | ⟨hc, -⟩
      · exact AR9.l hp0 ⟨_, rfl, hI.s9 same9_thr, same9_thr.f8, upd_same, fun y => absurd y (by decide)⟩
      · exact absurd hc z
