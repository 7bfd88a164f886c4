/-! 9g: the edits, on both sides -/
theorem NQ.rf {S : Int → Int} : NQ S S := fun _ _ _ => rfl
theorem NQ.tr {S A C : Int → Int} (h1 : NQ S A) (h2 : NQ A C) : NQ S C := fun j a b => (h2 j a b).trans (h1 j a b)
theorem NQ.sy {S A : Int → Int} (h1 : NQ S A) : NQ A S := fun j a b => (h1 j a b).symm
theorem NQ.nb {S A : Int → Int} (h1 : NQ S A) (h : NB S) : NB A := fun j a b => by rw [h1 j (by omega) b]; exact h j a b
theorem NQ.up {S A : Int → Int} {k v : Int} (hk : k = 0 ∨ 14 ≤ k) (h1 : NQ S A) : NQ S (upS A k v) := fun j a b => by rw [upS_ne (by omega)]; exact h1 j a b
theorem NQ.mt {S A f : Int → Int} {i : Int} (h1 : NQ S A) : NQ S (mtS A f i) := fun j a b => by rw [mtS_off (by omega)]; exact h1 j a b
theorem NQ.so {S A tau : Int → Int} {i : Int} (h1 : NQ S A) : NQ S (soS2 A tau i) := fun j a b => by rw [soS2_off (by omega)]; exact h1 j a b
theorem NQ.dr {S A : Int → Int} {k : Int} (hk : 0 ≤ k) (h1 : NQ S A) : NQ S (drS A k) := fun j a b => by
  unfold drS
  rw [if_neg (by omega), if_neg (by omega)]
  exact h1 j a b
theorem NmR.q {M : Id4 → Int → Int} {S S' : Int → Int} (h : NQ S S') (hE : 0 ≤ S 1 ∧ S 1 ≤ 6) (hN : NmR M 0 (S 1) S) : NmR M 0 (S' 1) S' := by
  have e1 : S' 1 = S 1 := h 1 (by decide) (by decide)
  rw [e1]
  exact ⟨hN.1, fun e e0 e9 => by rw [h (2 + 2 * e) (by omega) (by omega), h (2 + 2 * e + 1) (by omega) (by omega)]; exact hN.2 e e0 e9⟩
theorem push_ok {S S' : Int → Int} {n : Int} {Hs : Int → Int → Int} (hn : 0 ≤ n ∧ n ≤ 10) (hO : Ok S) (hq : NQ S S') (h : ∀ i, 0 ≤ i → i < n → Ok (Hs i) ∧ NQ S (Hs i)) : ∀ i, 0 ≤ i → i < min (n + 1) 10 → Ok (pushH n Hs S i) ∧ NQ S' (pushH n Hs S i) := by
  intro i i0 i1
  have key : Ok (pushH n Hs S i) ∧ NQ S (pushH n Hs S i) := by
    unfold pushH
    split
    · split
      · exact ⟨hO, NQ.rf⟩
      · exact h i i0 (by omega)
    · split
      · exact ⟨hO, NQ.rf⟩
      · exact h (i + 1) (by omega) (by omega)
  exact ⟨key.1, hq.sy.tr key.2⟩
theorem e_8 {M : Id4 → Int → Int} {b : Bool} {S B : Int → Int} {n : Int} {Hs : Int → Int → Int} {p : Pg} {bf ek ep : Int} {S' : Int → Int} {n' : Int} {Hs' : Int → Int → Int} {σ' : Hp} (hI : I8 M (S, B, n, Hs, p, bf, ek, ep)) (hE1 : 0 ≤ S 1 ∧ S 1 ≤ 6) (hq : NQ S S') (h : E8 M b S' n' Hs' σ') : ∃ M', σ' = (M', R0 b) ∧ I8 M' (S', B, n', Hs', p, bf, ek, ep) ∧ F9 M M' := by
  obtain ⟨M', nx', rfl, hs, hR, hH⟩ := h
  obtain ⟨h1, h2, h3, h4, h5, -, ⟨h7, h8⟩, h9⟩ := hI
  have g : ∀ q, (q.1 = 3 ∨ q.1 = 4 ∨ q.1 = 6 ∨ q.1 = 8) → M' q = M q := fun q hq => hs q (by omega)
  refine ⟨M', rfl, ⟨hR, ?_, fun e k e0 e1 k0 k1 => by rw [g (3, 1, 11, e) (by simp)]; exact h3 e k e0 e1 k0 k1, fun i i0 i1 => by rw [g (8, 0, 1, 0) (by simp)]; exact h4 i i0 i1, by rw [g _ (by simp)]; exact h5, ⟨nx', hH⟩, ⟨by rw [g _ (by simp)]; exact h7, by rw [g _ (by simp)]; exact h8⟩, ⟨by rw [g _ (by simp)]; exact h9.1, by rw [g _ (by simp)]; exact h9.2.1, h9.2.2⟩⟩, hs.f9⟩
  refine NmR.q hq hE1 ⟨by rw [g _ (by simp)]; exact h2.1, fun e e0 e1 => by rw [g (3, 0, 11, e) (by simp), g (3, 0, 2, 0) (by simp)]; exact h2.2 e e0 e1⟩
noncomputable def swt {α : Type} (t : Int) (a b : α) : α := if t = 0 then a else b
theorem swt0 {α : Type} {t : Int} {a b : α} (h : t = 0) : swt t a b = a := if_pos h
theorem swt1 {α : Type} {t : Int} {a b : α} (h : ¬ t = 0) : swt t a b = b := if_neg h
theorem e_wrap {M : Id4 → Int → Int} {b : Bool} {S B : Int → Int} {n : Int} {Hs : Int → Int → Int} {p : Pg} {bf ek ep : Int} {S' : Int → Int} {t V r : Int} {names : List String} {Q2 : Int → Hp → Prop} {QX2 : String → Hp → Prop} {σ' : Hp} (hI : I8 M (S, B, n, Hs, p, bf, ek, ep)) (hE1 : 0 ≤ S 1 ∧ S 1 ≤ 6) (h : WQ names Q2 QX2 r σ') (h1 : ∀ v σ', Q2 v σ' → v = V ∧ t = 0 ∧ NQ S S' ∧ E8 M b S' (min (n + 1) 10) (pushH n Hs S) σ') (h2 : ∀ (j : Nat) E σ', names[j]? = some E → QX2 E σ' → (j : Int) + 1 = t ∧ K8 M b σ') : AW8 M t V (swt t (S', B, min (n + 1) 10, pushH n Hs S, p, bf, ek, ep) (S, B, n, Hs, p, bf, ek, ep)) r σ' := by
  rcases h with ⟨rfl, v, M1, R1, hq, rfl⟩ | ⟨j, E, hj, rfl, hq⟩
  · obtain ⟨rfl, rfl, hN, he⟩ := h1 _ _ hq
    obtain ⟨M2, e2, i2, f2⟩ := e_8 hI hE1 hN he
    cases e2
    rw [swt0 rfl]
    exact ⟨_, b, rfl, i2.out, f2.up (by decide), rfl, fun _ => upd_same⟩
  · obtain ⟨rfl, M2, rfl, hs⟩ := h2 j E σ' hj hq
    rw [swt1 (by omega)]
    exact ⟨M2, b, rfl, hI.s8 hs, hs.f9, rfl, fun z => by omega⟩
theorem e_ref {M : Id4 → Int → Int} {b : Bool} {S B : Int → Int} {n : Int} {Hs : Int → Int → Int} {p : Pg} {bf ek ep : Int} {S' : Int → Int} {n' : Int} {Hs' : Int → Int → Int} {t V v : Int} {σ' : Hp} (hI : I9 M (S, B, n, Hs, p, bf, ek, ep)) (h : E9 M b t V S' n' Hs' v σ') : AR9 M b t V (swt t (S', B, n', Hs', p, bf, ek, ep) (S, B, n, Hs, p, bf, ek, ep)) v σ' := by
  obtain ⟨M', rfl, h4, h5⟩ := h
  rcases h5 with ⟨rfl, rfl, hs, hS, hH⟩ | ⟨ht, hs⟩
  · rw [swt0 rfl]
    obtain ⟨g1, g2, g3, -, ⟨g5, g6⟩, g7⟩ := hI
    refine ⟨M', rfl, ⟨hS, (funext fun k => hs _ k (by unfold scr9; simp) : M' (9, 0, 6, 0) = M (9, 0, 6, 0)).trans g2, (hs _ _ (by unfold scr9; simp)).trans g3, hH, ⟨(hs _ _ (by unfold scr9; simp)).trans g5, (hs _ _ (by unfold scr9; simp)).trans g6⟩, ⟨(funext fun k => hs _ k (by unfold scr9; simp) : M' (9, 0, 33, 0) = M (9, 0, 33, 0)).trans g7.1, (hs _ _ (by unfold scr9; simp)).trans g7.2.1, g7.2.2⟩⟩, hs.f8, h4, fun _ => rfl⟩
  · rw [swt1 ht]
    exact ⟨M', rfl, hI.s9 hs, hs.f8, h4, fun z => absurd z ht⟩
theorem e_pu {S B : Int → Int} {n : Int} {Hs : Int → Int → Int} {p : Pg} {bf ek ep : Int} {S' : Int → Int} {t : Int} (hp : PUs (S, B, n, Hs, p, bf, ek, ep)) (hn : 0 ≤ n ∧ n ≤ 10) (h : t = 0 → Ok S' ∧ NQ S S') : PUs (swt t (S', B, min (n + 1) 10, pushH n Hs S, p, bf, ek, ep) (S, B, n, Hs, p, bf, ek, ep)) := by
  by_cases ht : t = 0
  · obtain ⟨h1, h2⟩ := h ht
    rw [swt0 ht]
    exact ⟨h1, h2.nb hp.2.1, hp.2.2.1, hp.2.2.2.1, push_ok hn hp.1 h2 hp.2.2.2.2.1, hp.2.2.2.2.2⟩
  · rw [swt1 ht]
    exact hp
theorem t1i {c : Prop} [Decidable c] (h : (1 : Int) - b2i c = 0) : c := Classical.byContradiction fun z => by rw [b2i_neg z] at h; omega
theorem t2i {c1 c2 : Prop} [Decidable c1] [Decidable c2] (h : t2 c1 c2 = 0) : c1 ∧ c2 := Classical.byContradiction fun z => t2_ne z h
theorem t3i {c1 c2 c3 : Prop} [Decidable c1] [Decidable c2] [Decidable c3] (h : t3 c1 c2 c3 = 0) : c1 ∧ c2 ∧ c3 := by
  unfold t3 at h
  by_cases z1 : b2i c1 = 0
  · rw [if_pos z1] at h; omega
  · by_cases z2 : b2i c2 = 0
    · rw [if_neg z1, if_pos z2] at h; omega
    · by_cases z3 : b2i c3 = 0
      · rw [if_neg z1, if_neg z2, if_pos z3] at h; omega
      · exact ⟨Classical.byContradiction fun y => z1 (b2i_neg y), Classical.byContradiction fun y => z2 (b2i_neg y), Classical.byContradiction fun y => z3 (b2i_neg y)⟩
theorem op_move (M : Id4 → Int → Int) (b : Bool) (st : ST) (e w : Int) (he : inR e) (hw : inR w) (h8 : I8 M st) (hp : PUs st) : ∃ U t V st', U ≤ 8 ∧ (0 ≤ t ∧ t ≤ 3) ∧ PUs st' ∧ CtH 14 U yL_move cL_move 5 (some .int) [(0, 10, 13, 21), (0, 10, 17, 13)] [aR (8, 0, 0, 0), aI e, aI w, aR (10, 0, 1, 0)] (M, R0 b) (AW8 M t V st') ∧ ∀ M' b', I9 M' st → CtI 6 0 yX9_move cX9_move 3 (some .int) [aR (9, 0, 0, 0), aI e, aI w] (M', R0 b') (AR9 M' b' t V st') := by
  obtain ⟨S, B, n, Hs, p, bf, ek, ep⟩ := st
  have hR : plR M 0 S := h8.1
  have hO : Ok S := hp.1
  have hT := hO.1
  have hE := hO.2.1
  have hN := hO.2.2.1
  obtain ⟨nx, hH⟩ := h8.2.2.2.2.2.1
  have hn := hH.1.2.2.2
  refine ⟨2, t2 (0 ≤ e ∧ e ≤ S 1 - 1) (0 ≤ w ∧ w ≤ S 0 - 1), brk (upS S (14 + e) w), swt (t2 (0 ≤ e ∧ e ≤ S 1 - 1) (0 ≤ w ∧ w ≤ S 0 - 1)) (upS S (14 + e) w, B, min (n + 1) 10, pushH n Hs S, p, bf, ek, ep) (S, B, n, Hs, p, bf, ek, ep), by decide, (by first | exact t1b | exact t2b | exact t3b | decide | omega), e_pu hp hn (fun z => ?_), ?_, fun M' b' hI => ?_⟩
  · obtain ⟨z1, z2⟩ := t2i z
    exact ⟨ok_time hO (by omega) (by omega), NQ.rf.up (by omega)⟩
  · refine (ch_move M (R0 b) e w (cx8_move M b S nx n Hs e w he hw hR hO hH) (fun E σ' h => ?_)).mono (fun r σ' hq => e_wrap (b := b) h8 hE hq (fun v σ' h => ?_) (fun j E σ' hj h => ?_))
    · rcases h.2 with ⟨rfl, -⟩ | ⟨rfl, -⟩ <;> simp
    · obtain ⟨hv, hc, he8⟩ := h; exact ⟨hv, t2_0 (c1 := 0 ≤ e ∧ e ≤ S 1 - 1) (c2 := 0 ≤ w ∧ w ≤ S 0 - 1) (by omega) (by omega), NQ.rf.up (by omega), he8⟩
    · obtain ⟨hs, hc⟩ := h
      rcases nm2 hj with ⟨rfl, rfl⟩ | ⟨rfl, rfl⟩
      · rcases hc with ⟨-, hc⟩ | ⟨hc, -⟩
        · exact ⟨(t2_1 (c1 := 0 ≤ e ∧ e ≤ S 1 - 1) (c2 := 0 ≤ w ∧ w ≤ S 0 - 1) (by omega)).symm, hs ▸ K8.rf⟩
        · exact absurd hc (by decide)
      · rcases hc with ⟨hc, -⟩ | ⟨-, hc, hc2⟩
        · exact absurd hc (by decide)
        · exact ⟨(t2_2 (c1 := 0 ≤ e ∧ e ≤ S 1 - 1) (c2 := 0 ≤ w ∧ w ≤ S 0 - 1) (by omega) (by omega)).symm, hs ▸ K8.rf⟩
  · exact (cq9_move M' b' S n Hs e w he hw hI.1 hO hI.2.2.2.1).mono (fun v σ' hq => e_ref hI hq)
theorem op_setSpan (M : Id4 → Int → Int) (b : Bool) (st : ST) (e x y : Int) (he : inR e) (hx : inR x) (hy : inR y) (h8 : I8 M st) (hp : PUs st) : ∃ U t V st', U ≤ 8 ∧ (0 ≤ t ∧ t ≤ 3) ∧ PUs st' ∧ CtH 15 U yL_setSpan cL_setSpan 6 (some .int) [(0, 12, 15, 21), (0, 12, 19, 13)] [aR (8, 0, 0, 0), aI e, aI x, aI y, aR (10, 0, 1, 0)] (M, R0 b) (AW8 M t V st') ∧ ∀ M' b', I9 M' st → CtI 6 0 yX9_setSpan cX9_setSpan 4 (some .int) [aR (9, 0, 0, 0), aI e, aI x, aI y] (M', R0 b') (AR9 M' b' t V st') := by
  obtain ⟨S, B, n, Hs, p, bf, ek, ep⟩ := st
  have hR : plR M 0 S := h8.1
  have hO : Ok S := hp.1
  have hT := hO.1
  have hE := hO.2.1
  have hN := hO.2.2.1
  obtain ⟨nx, hH⟩ := h8.2.2.2.2.2.1
  have hn := hH.1.2.2.2
  refine ⟨3, t2 (0 ≤ e ∧ e ≤ S 20 - 1) ((0 ≤ x ∧ x ≤ 48) ∧ x ≤ y ∧ y ≤ x + S 0 - 1), x + slOf (upS (upS S (21 + 5 * e + 2) x) (21 + 5 * e + 3) y) e, swt (t2 (0 ≤ e ∧ e ≤ S 20 - 1) ((0 ≤ x ∧ x ≤ 48) ∧ x ≤ y ∧ y ≤ x + S 0 - 1)) (upS (upS S (21 + 5 * e + 2) x) (21 + 5 * e + 3) y, B, min (n + 1) 10, pushH n Hs S, p, bf, ek, ep) (S, B, n, Hs, p, bf, ek, ep), by decide, (by first | exact t1b | exact t2b | exact t3b | decide | omega), e_pu hp hn (fun z => ?_), ?_, fun M' b' hI => ?_⟩
  · obtain ⟨z1, z2⟩ := t2i z
    exact ⟨ok_set hO (by omega) (by omega) (by omega), (NQ.rf.up (by omega)).up (by omega)⟩
  · refine (ch_setSpan M (R0 b) e x y (cx8_setSpan M b S nx n Hs e x y he hx hy hR hO hH) (fun E σ' h => ?_)).mono (fun r σ' hq => e_wrap (b := b) h8 hE hq (fun v σ' h => ?_) (fun j E σ' hj h => ?_))
    · rcases h.2 with ⟨rfl, -⟩ | ⟨rfl, -⟩ <;> simp
    · obtain ⟨hv, hc, he8⟩ := h; exact ⟨hv, t2_0 (c1 := 0 ≤ e ∧ e ≤ S 20 - 1) (c2 := (0 ≤ x ∧ x ≤ 48) ∧ x ≤ y ∧ y ≤ x + S 0 - 1) (by omega) (by omega), (NQ.rf.up (by omega)).up (by omega), he8⟩
    · obtain ⟨hs, hc⟩ := h
      rcases nm2 hj with ⟨rfl, rfl⟩ | ⟨rfl, rfl⟩
      · rcases hc with ⟨-, hc⟩ | ⟨hc, -⟩
        · exact ⟨(t2_1 (c1 := 0 ≤ e ∧ e ≤ S 20 - 1) (c2 := (0 ≤ x ∧ x ≤ 48) ∧ x ≤ y ∧ y ≤ x + S 0 - 1) (by omega)).symm, hs ▸ K8.rf⟩
        · exact absurd hc (by decide)
      · rcases hc with ⟨hc, -⟩ | ⟨-, hc, hc2⟩
        · exact absurd hc (by decide)
        · exact ⟨(t2_2 (c1 := 0 ≤ e ∧ e ≤ S 20 - 1) (c2 := (0 ≤ x ∧ x ≤ 48) ∧ x ≤ y ∧ y ≤ x + S 0 - 1) (by omega) (by omega)).symm, hs ▸ K8.rf⟩
  · exact (cq9_setSpan M' b' S n Hs e x y he hx hy hI.1 hO hI.2.2.2.1).mono (fun v σ' hq => e_ref hI hq)
theorem op_setWeight (M : Id4 → Int → Int) (b : Bool) (st : ST) (e w : Int) (he : inR e) (hw : inR w) (h8 : I8 M st) (hp : PUs st) : ∃ U t V st', U ≤ 8 ∧ (0 ≤ t ∧ t ≤ 3) ∧ PUs st' ∧ CtH 14 U yL_setWeight cL_setWeight 5 (some .int) [(0, 10, 13, 21), (0, 10, 17, 13)] [aR (8, 0, 0, 0), aI e, aI w, aR (10, 0, 1, 0)] (M, R0 b) (AW8 M t V st') ∧ ∀ M' b', I9 M' st → CtI 3 0 yX9_setWeight cX9_setWeight 4 (some .int) [aR (9, 0, 0, 0), aI e, aI w] (M', R0 b') (AR9 M' b' t V st') := by
  obtain ⟨S, B, n, Hs, p, bf, ek, ep⟩ := st
  have hR : plR M 0 S := h8.1
  have hO : Ok S := hp.1
  have hT := hO.1
  have hE := hO.2.1
  have hN := hO.2.2.1
  obtain ⟨nx, hH⟩ := h8.2.2.2.2.2.1
  have hn := hH.1.2.2.2
  refine ⟨2, t2 (0 ≤ e ∧ e ≤ S 20 - 1) (0 ≤ w ∧ w ≤ 20), S (21 + 5 * e + 4), swt (t2 (0 ≤ e ∧ e ≤ S 20 - 1) (0 ≤ w ∧ w ≤ 20)) (upS S (21 + 5 * e + 4) w, B, min (n + 1) 10, pushH n Hs S, p, bf, ek, ep) (S, B, n, Hs, p, bf, ek, ep), by decide, (by first | exact t1b | exact t2b | exact t3b | decide | omega), e_pu hp hn (fun z => ?_), ?_, fun M' b' hI => ?_⟩
  · obtain ⟨z1, z2⟩ := t2i z
    exact ⟨ok_weight hO (by omega) (by omega), NQ.rf.up (by omega)⟩
  · refine (ch_setWeight M (R0 b) e w (cx8_setWeight M b S nx n Hs e w he hw hR hO hH) (fun E σ' h => ?_)).mono (fun r σ' hq => e_wrap (b := b) h8 hE hq (fun v σ' h => ?_) (fun j E σ' hj h => ?_))
    · rcases h.2 with ⟨rfl, -⟩ | ⟨rfl, -⟩ <;> simp
    · obtain ⟨hv, hc, he8⟩ := h; exact ⟨hv, t2_0 (c1 := 0 ≤ e ∧ e ≤ S 20 - 1) (c2 := 0 ≤ w ∧ w ≤ 20) (by omega) (by omega), NQ.rf.up (by omega), he8⟩
    · obtain ⟨hs, hc⟩ := h
      rcases nm2 hj with ⟨rfl, rfl⟩ | ⟨rfl, rfl⟩
      · rcases hc with ⟨-, hc⟩ | ⟨hc, -⟩
        · exact ⟨(t2_1 (c1 := 0 ≤ e ∧ e ≤ S 20 - 1) (c2 := 0 ≤ w ∧ w ≤ 20) (by omega)).symm, hs ▸ K8.rf⟩
        · exact absurd hc (by decide)
      · rcases hc with ⟨hc, -⟩ | ⟨-, hc, hc2⟩
        · exact absurd hc (by decide)
        · exact ⟨(t2_2 (c1 := 0 ≤ e ∧ e ≤ S 20 - 1) (c2 := 0 ≤ w ∧ w ≤ 20) (by omega) (by omega)).symm, hs ▸ K8.rf⟩
  · exact (cq9_setWeight M' b' S n Hs e w he hw hI.1 hO hI.2.2.2.1).mono (fun v σ' hq => e_ref hI hq)
theorem op_addSpan (M : Id4 → Int → Int) (b : Bool) (st : ST) (x y lo hi w : Int) (hx : inR x) (hy : inR y) (hlo : inR lo) (hhi : inR hi) (hw : inR w) (h8 : I8 M st) (hp : PUs st) : ∃ U t V st', U ≤ 8 ∧ (0 ≤ t ∧ t ≤ 3) ∧ PUs st' ∧ CtH 15 U yL_addSpan cL_addSpan 8 (some .int) [(0, 16, 19, 21), (0, 16, 23, 13), (0, 16, 27, 100)] [aR (8, 0, 0, 0), aI x, aI y, aI lo, aI hi, aI w, aR (10, 0, 1, 0)] (M, R0 b) (AW8 M t V st') ∧ ∀ M' b', I9 M' st → CtI 4 0 yX9_addSpan cX9_addSpan 8 (some .int) [aR (9, 0, 0, 0), aI x, aI y, aI lo, aI hi, aI w] (M', R0 b') (AR9 M' b' t V st') := by
  obtain ⟨S, B, n, Hs, p, bf, ek, ep⟩ := st
  have hR : plR M 0 S := h8.1
  have hO : Ok S := hp.1
  have hT := hO.1
  have hE := hO.2.1
  have hN := hO.2.2.1
  obtain ⟨nx, hH⟩ := h8.2.2.2.2.2.1
  have hn := hH.1.2.2.2
  refine ⟨6, t3 ((0 ≤ x ∧ x ≤ S 1 - 1) ∧ (0 ≤ y ∧ y ≤ S 1 - 1)) (x ≠ y ∧ ((0 ≤ lo ∧ lo ≤ 48) ∧ lo ≤ hi ∧ hi ≤ lo + S 0 - 1) ∧ 0 ≤ w ∧ w ≤ 20) (S 20 < 14), S 20, swt (t3 ((0 ≤ x ∧ x ≤ S 1 - 1) ∧ (0 ≤ y ∧ y ≤ S 1 - 1)) (x ≠ y ∧ ((0 ≤ lo ∧ lo ≤ 48) ∧ lo ≤ hi ∧ hi ≤ lo + S 0 - 1) ∧ 0 ≤ w ∧ w ≤ 20) (S 20 < 14)) (apS S x y lo hi w, B, min (n + 1) 10, pushH n Hs S, p, bf, ek, ep) (S, B, n, Hs, p, bf, ek, ep), by decide, (by first | exact t1b | exact t2b | exact t3b | decide | omega), e_pu hp hn (fun z => ?_), ?_, fun M' b' hI => ?_⟩
  · obtain ⟨z1, z2, z3⟩ := t3i z
    exact ⟨ok_ap hO (by omega) (by omega) z2.1 z2.2.1.1 z2.2.1.2 z2.2.2 z3, (by unfold apS; exact (((((NQ.rf.up (by omega)).up (by omega)).up (by omega)).up (by omega)).up (by omega)).up (by omega))⟩
  · refine (ch_addSpan M (R0 b) x y lo hi w (cx8_addSpan M b S nx n Hs x y lo hi w hx hy hlo hhi hw hR hO hH) (fun E σ' h => ?_)).mono (fun r σ' hq => e_wrap (b := b) h8 hE hq (fun v σ' h => ?_) (fun j E σ' hj h => ?_))
    · rcases h.2 with ⟨rfl, -⟩ | ⟨rfl, -⟩ | ⟨rfl, -⟩ <;> simp
    · obtain ⟨hv, ⟨hc, hc2, hc3⟩, he8⟩ := h; exact ⟨hv, t3_0 (c1 := (0 ≤ x ∧ x ≤ S 1 - 1) ∧ (0 ≤ y ∧ y ≤ S 1 - 1)) (c2 := x ≠ y ∧ ((0 ≤ lo ∧ lo ≤ 48) ∧ lo ≤ hi ∧ hi ≤ lo + S 0 - 1) ∧ 0 ≤ w ∧ w ≤ 20) (c3 := S 20 < 14) (by omega) hc2 hc3, (by unfold apS; exact (((((NQ.rf.up (by omega)).up (by omega)).up (by omega)).up (by omega)).up (by omega)).up (by omega)), he8⟩
    · obtain ⟨hs, hc⟩ := h
      rcases nm3 hj with ⟨rfl, rfl⟩ | ⟨rfl, rfl⟩ | ⟨rfl, rfl⟩
      · rcases hc with ⟨-, hc⟩ | ⟨hc, -⟩ | ⟨hc, -⟩
        · exact ⟨(t3_1 (c1 := (0 ≤ x ∧ x ≤ S 1 - 1) ∧ (0 ≤ y ∧ y ≤ S 1 - 1)) (c2 := x ≠ y ∧ ((0 ≤ lo ∧ lo ≤ 48) ∧ lo ≤ hi ∧ hi ≤ lo + S 0 - 1) ∧ 0 ≤ w ∧ w ≤ 20) (c3 := S 20 < 14) (by omega)).symm, hs ▸ K8.rf⟩
        · exact absurd hc (by decide)
        · exact absurd hc (by decide)
      · rcases hc with ⟨hc, -⟩ | ⟨-, hc, hc2⟩ | ⟨hc, -⟩
        · exact absurd hc (by decide)
        · exact ⟨(t3_2 (c1 := (0 ≤ x ∧ x ≤ S 1 - 1) ∧ (0 ≤ y ∧ y ≤ S 1 - 1)) (c2 := x ≠ y ∧ ((0 ≤ lo ∧ lo ≤ 48) ∧ lo ≤ hi ∧ hi ≤ lo + S 0 - 1) ∧ 0 ≤ w ∧ w ≤ 20) (c3 := S 20 < 14) (by omega) hc2).symm, hs ▸ K8.rf⟩
        · exact absurd hc (by decide)
      · rcases hc with ⟨hc, -⟩ | ⟨hc, -⟩ | ⟨-, hc, hc2, hc3⟩
        · exact absurd hc (by decide)
        · exact absurd hc (by decide)
        · exact ⟨(t3_3 (c1 := (0 ≤ x ∧ x ≤ S 1 - 1) ∧ (0 ≤ y ∧ y ≤ S 1 - 1)) (c2 := x ≠ y ∧ ((0 ≤ lo ∧ lo ≤ 48) ∧ lo ≤ hi ∧ hi ≤ lo + S 0 - 1) ∧ 0 ≤ w ∧ w ≤ 20) (c3 := S 20 < 14) (by omega) hc2 hc3).symm, hs ▸ K8.rf⟩
  · exact (cq9_addSpan M' b' S n Hs x y lo hi w hx hy hlo hhi hw hI.1 hO hI.2.2.2.1).mono (fun v σ' hq => e_ref hI hq)
theorem op_removeSpan (M : Id4 → Int → Int) (b : Bool) (st : ST) (e : Int) (he : inR e) (h8 : I8 M st) (hp : PUs st) : ∃ U t V st', U ≤ 8 ∧ (0 ≤ t ∧ t ≤ 3) ∧ PUs st' ∧ CtH 14 U yL_removeSpan cL_removeSpan 4 (some .int) [(0, 9, 12, 21)] [aR (8, 0, 0, 0), aI e, aR (10, 0, 1, 0)] (M, R0 b) (AW8 M t V st') ∧ ∀ M' b', I9 M' st → CtI 3 0 yX9_removeSpan cX9_removeSpan 2 (some .int) [aR (9, 0, 0, 0), aI e] (M', R0 b') (AR9 M' b' t V st') := by
  obtain ⟨S, B, n, Hs, p, bf, ek, ep⟩ := st
  have hR : plR M 0 S := h8.1
  have hO : Ok S := hp.1
  have hT := hO.1
  have hE := hO.2.1
  have hN := hO.2.2.1
  obtain ⟨nx, hH⟩ := h8.2.2.2.2.2.1
  have hn := hH.1.2.2.2
  refine ⟨1, 1 - b2i (0 ≤ e ∧ e ≤ S 20 - 1), S 20 - 1, swt (1 - b2i (0 ≤ e ∧ e ≤ S 20 - 1)) (drS S e, B, min (n + 1) 10, pushH n Hs S, p, bf, ek, ep) (S, B, n, Hs, p, bf, ek, ep), by decide, (by first | exact t1b | exact t2b | exact t3b | decide | omega), e_pu hp hn (fun z => ?_), ?_, fun M' b' hI => ?_⟩
  · have z1 := t1i z
    exact ⟨ok_dr hO (by omega), NQ.rf.dr z1.1⟩
  · refine (ch_removeSpan M (R0 b) e (cx8_removeSpan M b S nx n Hs e he hR hO hH) (fun E σ' h => ?_)).mono (fun r σ' hq => e_wrap (b := b) h8 hE hq (fun v σ' h => ?_) (fun j E σ' hj h => ?_))
    · obtain ⟨-, rfl, -⟩ := h; exact List.mem_cons_self
    · obtain ⟨hv, hc, he8⟩ := h; exact ⟨hv, t1y (c := 0 ≤ e ∧ e ≤ S 20 - 1) (by omega), NQ.rf.dr hc.1, he8⟩
    · obtain ⟨rfl, -⟩ := nm1 hj; obtain ⟨hs, -, hc⟩ := h; exact ⟨(t1n (c := 0 ≤ e ∧ e ≤ S 20 - 1) (by omega)).symm, hs ▸ K8.rf⟩
  · exact (cq9_removeSpan M' b' S n Hs e he hI.1 hO hI.2.2.2.1).mono (fun v σ' hq => e_ref hI hq)
theorem op_solve (M : Id4 → Int → Int) (b : Bool) (st : ST)  (h8 : I8 M st) (hp : PUs st) : ∃ U t V st', U ≤ 8 ∧ (0 ≤ t ∧ t ≤ 3) ∧ PUs st' ∧ CtH 31 U yL_solve cL_solve 3 (some .int) [(0, 8, 11, 41)] [aR (8, 0, 0, 0), aR (10, 0, 1, 0)] (M, R0 b) (AW8 M t V st') ∧ ∀ M' b', I9 M' st → CtI 27 0 yX9_solve cX9_solve 1 (some .int) [aR (9, 0, 0, 0)] (M', R0 b') (AR9 M' b' t V st') := by
  obtain ⟨S, B, n, Hs, p, bf, ek, ep⟩ := st
  have hR : plR M 0 S := h8.1
  have hO : Ok S := hp.1
  have hT := hO.1
  have hE := hO.2.1
  have hN := hO.2.2.1
  obtain ⟨nx, hH⟩ := h8.2.2.2.2.2.1
  have hn := hH.1.2.2.2
  refine ⟨1, 1 - b2i (¬ (goS S 1).1 = -1), (goS S 1).1, swt (1 - b2i (¬ (goS S 1).1 = -1)) (solR S 1, B, min (n + 1) 10, pushH n Hs S, p, bf, ek, ep) (S, B, n, Hs, p, bf, ek, ep), by decide, (by first | exact t1b | exact t2b | exact t3b | decide | omega), e_pu hp hn (fun z => ?_), ?_, fun M' b' hI => ?_⟩
  · have z1 := t1i z
    have z2 := (goS_inv hO (first := 1)).resolve_left z1
    exact ⟨so_ok hO z2.2.2, NQ.rf.so⟩
  · refine (ch_solve M (R0 b) (cx8_solve M b S nx n Hs hR hO hH) (fun E σ' h => ?_)).mono (fun r σ' hq => e_wrap (b := b) h8 hE hq (fun v σ' h => ?_) (fun j E σ' hj h => ?_))
    · obtain ⟨⟨rfl, h2⟩, h3⟩ := h; exact List.mem_cons_self
    · obtain ⟨hv, hc, he8⟩ := h; exact ⟨hv, t1y (c := ¬ (goS S 1).1 = -1) hc, NQ.rf.so, he8⟩
    · obtain ⟨rfl, -⟩ := nm1 hj; obtain ⟨⟨-, hc⟩, M2, hs, hk⟩ := h; exact ⟨(t1n (c := ¬ (goS S 1).1 = -1) (fun z => z hc)).symm, M2, hs, hk⟩
  · exact (cq9_solve M' b' S n Hs hI.1 hO hI.2.2.2.1).mono (fun v σ' hq => e_ref hI hq)
theorem op_cheapen (M : Id4 → Int → Int) (b : Bool) (st : ST)  (h8 : I8 M st) (hp : PUs st) : ∃ U t V st', U ≤ 8 ∧ (0 ≤ t ∧ t ≤ 3) ∧ PUs st' ∧ CtH 31 U yL_cheapen cL_cheapen 3 (some .int) [(0, 8, 11, 41)] [aR (8, 0, 0, 0), aR (10, 0, 1, 0)] (M, R0 b) (AW8 M t V st') ∧ ∀ M' b', I9 M' st → CtI 27 0 yX9_cheapen cX9_cheapen 1 (some .int) [aR (9, 0, 0, 0)] (M', R0 b') (AR9 M' b' t V st') := by
  obtain ⟨S, B, n, Hs, p, bf, ek, ep⟩ := st
  have hR : plR M 0 S := h8.1
  have hO : Ok S := hp.1
  have hT := hO.1
  have hE := hO.2.1
  have hN := hO.2.2.1
  obtain ⟨nx, hH⟩ := h8.2.2.2.2.2.1
  have hn := hH.1.2.2.2
  refine ⟨1, 1 - b2i (¬ (goS S 0).1 = -1), (goS S 0).1, swt (1 - b2i (¬ (goS S 0).1 = -1)) (solR S 0, B, min (n + 1) 10, pushH n Hs S, p, bf, ek, ep) (S, B, n, Hs, p, bf, ek, ep), by decide, (by first | exact t1b | exact t2b | exact t3b | decide | omega), e_pu hp hn (fun z => ?_), ?_, fun M' b' hI => ?_⟩
  · have z1 := t1i z
    have z2 := (goS_inv hO (first := 0)).resolve_left z1
    exact ⟨so_ok hO z2.2.2, NQ.rf.so⟩
  · refine (ch_cheapen M (R0 b) (cx8_cheapen M b S nx n Hs hR hO hH) (fun E σ' h => ?_)).mono (fun r σ' hq => e_wrap (b := b) h8 hE hq (fun v σ' h => ?_) (fun j E σ' hj h => ?_))
    · obtain ⟨⟨rfl, h2⟩, h3⟩ := h; exact List.mem_cons_self
    · obtain ⟨hv, hc, he8⟩ := h; exact ⟨hv, t1y (c := ¬ (goS S 0).1 = -1) hc, NQ.rf.so, he8⟩
    · obtain ⟨rfl, -⟩ := nm1 hj; obtain ⟨⟨-, hc⟩, M2, hs, hk⟩ := h; exact ⟨(t1n (c := ¬ (goS S 0).1 = -1) (fun z => z hc)).symm, M2, hs, hk⟩
  · exact (cq9_cheapen M' b' S n Hs hI.1 hO hI.2.2.2.1).mono (fun v σ' hq => e_ref hI hq)
