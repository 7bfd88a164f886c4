/-! 9i: the last operations, on both sides -/
theorem e_plain {M : Id4 → Int → Int} {b : Bool} {S B : Int → Int} {n : Int} {Hs : Int → Int → Int} {p : Pg} {bf ek ep : Int} {S' : Int → Int} {n' : Int} {Hs' : Int → Int → Int} {V v : Int} {σ' : Hp} (hI : I8 M (S, B, n, Hs, p, bf, ek, ep)) (hE1 : 0 ≤ S 1 ∧ S 1 ≤ 6) (hq : NQ S S') (hv : v = V) (h : E8 M b S' n' Hs' σ') : AP8 M b V (S', B, n', Hs', p, bf, ek, ep) v σ' := by
  obtain ⟨M2, e2, i2, f2⟩ := e_8 hI hE1 hq h
  exact ⟨M2, e2, i2, f2, hv⟩
theorem e_ref0 {M : Id4 → Int → Int} {b : Bool} {S B : Int → Int} {n : Int} {Hs : Int → Int → Int} {p : Pg} {bf ek ep : Int} {S' : Int → Int} {n' : Int} {Hs' : Int → Int → Int} {V v : Int} {σ' : Hp} (hI : I9 M (S, B, n, Hs, p, bf, ek, ep)) (h : E9 M b 0 V S' n' Hs' v σ') : AR9 M b 0 V (S', B, n', Hs', p, bf, ek, ep) v σ' := by
  have z := e_ref hI h
  rw [swt0 rfl] at z
  exact z
theorem e_pu0 {S B : Int → Int} {n : Int} {Hs : Int → Int → Int} {p : Pg} {bf ek ep : Int} {S' : Int → Int} (hp : PUs (S, B, n, Hs, p, bf, ek, ep)) (hn : 0 ≤ n ∧ n ≤ 10) (h1 : Ok S') (h2 : NQ S S') : PUs (S', B, min (n + 1) 10, pushH n Hs S, p, bf, ek, ep) := by
  have z := e_pu (t := 0) hp hn (fun _ => ⟨h1, h2⟩)
  rw [swt0 rfl] at z
  exact z
theorem op_shift (M : Id4 → Int → Int) (b : Bool) (st : ST) (e : Int) (he : inR e) (h8 : I8 M st) (hp : PUs st) : ∃ V st', PUs st' ∧ CtI 5 0 yX8_shift cX8_shift 4 (some .int) [aR (8, 0, 0, 0), aI e] (M, R0 b) (AP8 M b V st') ∧ ∀ M' b', I9 M' st → CtI 2 0 yX9_shift cX9_shift 4 (some .int) [aR (9, 0, 0, 0), aI e] (M', R0 b') (AR9 M' b' 0 V st') := by
  obtain ⟨S, B, n, Hs, p, bf, ek, ep⟩ := st
  have hR : plR M 0 S := h8.1
  have hO : Ok S := hp.1
  have hT := hO.1
  have hE := hO.2.1
  have hN := hO.2.2.1
  obtain ⟨nx, hH⟩ := h8.2.2.2.2.2.1
  have hn := hH.1.2.2.2
  have ok : Ok (mtS S (fun x => (x + e % S 0) % S 0) (S 1)) := ok_mt hO.1 hO.2.1 hO.2.2.1 hO.2.2.2.2 (fun x => ⟨Int.emod_nonneg _ (by omega), Int.emod_lt_of_pos _ (by omega)⟩)
  refine ⟨if S 1 = 0 then -1 else mtS S (fun x => (x + e % S 0) % S 0) (S 1) 14, (mtS S (fun x => (x + e % S 0) % S 0) (S 1), B, min (n + 1) 10, pushH n Hs S, p, bf, ek, ep), e_pu0 hp hn ok NQ.rf.mt, (ct8_shift M b S nx n Hs e he hR hO hH).mono (fun v σ' h => e_plain h8 hE NQ.rf.mt h.1 h.2), fun M' b' hI => (cq9_shift M' b' S n Hs e he hI.1 hO hI.2.2.2.1).mono (fun v σ' h => e_ref0 hI h)⟩
theorem nx_nq {S : Int → Int} (h : Ok S) : NQ S (nxS S) := by
  have b := clN_bd h _ (Nat.le_refl _)
  unfold nxS
  show NQ S (cand S (clN S ((S 0).toNat * (S 1).toNat)))
  unfold cand
  split
  · exact NQ.rf
  · rename_i z
    rcases b with b | b
    · rw [b] at z
      exact absurd rfl z
    · exact NQ.rf.up (by omega)
theorem itI_nq {S : Int → Int} (h : Ok S) : ∀ n : Nat, NQ S (itI S n)
  | 0 => NQ.rf
  | n + 1 => (itI_nq h n).tr (nx_nq (itI_ok h n))
theorem op_improve (M : Id4 → Int → Int) (b : Bool) (st : ST)  (h8 : I8 M st) (hp : PUs st) : ∃ V st', PUs st' ∧ CtI 7 0 yX8_improve cX8_improve 2 (some .int) [aR (8, 0, 0, 0)] (M, R0 b) (AP8 M b V st') ∧ ∀ M' b', I9 M' st → CtI 8 0 yX9_improve cX9_improve 2 (some .int) [aR (9, 0, 0, 0)] (M', R0 b') (AR9 M' b' 0 V st') := by
  obtain ⟨S, B, n, Hs, p, bf, ek, ep⟩ := st
  have hR : plR M 0 S := h8.1
  have hO : Ok S := hp.1
  have hT := hO.1
  have hE := hO.2.1
  have hN := hO.2.2.1
  obtain ⟨nx, hH⟩ := h8.2.2.2.2.2.1
  have hn := hH.1.2.2.2
  obtain ⟨N, hNv⟩ : ∃ N : Nat, ∀ k : Nat, MvN S k → k = N := by
    by_cases z : ∃ k, MvN S k
    · obtain ⟨k, hk⟩ := z
      exact ⟨k, fun j hj => hj.uniq hk⟩
    · exact ⟨0, fun j hj => absurd ⟨j, hj⟩ z⟩
  refine ⟨N, (itI S N, B, min (n + 1) 10, pushH n Hs S, p, bf, ek, ep), e_pu0 hp hn (itI_ok hO N) (itI_nq hO N), (ct8_improve M b S nx n Hs hR hO hH).mono (fun v σ' h => ?_), fun M' b' hI => (cq9_improve M' b' S n Hs hI.1 hO hI.2.2.2.1).mono (fun v σ' h => ?_)⟩
  · obtain ⟨k, hk, hv, h8'⟩ := h
    obtain rfl := hNv k hk
    exact e_plain h8 hE (itI_nq hO k) hv h8'
  · obtain ⟨k, hk, h9'⟩ := h
    obtain rfl := hNv k hk
    exact e_ref0 hI h9'
theorem op_undo (M : Id4 → Int → Int) (b : Bool) (st : ST)  (h8 : I8 M st) (hp : PUs st) : ∃ V st', PUs st' ∧ CtI 5 0 yX8_undo cX8_undo 1 (some .int) [aR (8, 0, 0, 0)] (M, R0 b) (AP8 M b V st') ∧ ∀ M' b', I9 M' st → CtI 1 0 yX9_undo cX9_undo 2 (some .int) [aR (9, 0, 0, 0)] (M', R0 b') (AR9 M' b' 0 V st') := by
  obtain ⟨S, B, n, Hs, p, bf, ek, ep⟩ := st
  have hR : plR M 0 S := h8.1
  have hO : Ok S := hp.1
  have hT := hO.1
  have hE := hO.2.1
  have hN := hO.2.2.1
  obtain ⟨nx, hH⟩ := h8.2.2.2.2.2.1
  have hn := hH.1.2.2.2
  by_cases z : n = 0
  · refine ⟨-1, (S, B, n, Hs, p, bf, ek, ep), hp, (ct8_undo M b nx n Hs hH).mono (fun v σ' h => ?_), fun M' b' hI => (cq9_undo M' b' S n Hs hI.1 hI.2.2.2.1).mono (fun v σ' h => ?_)⟩
    · obtain ⟨M2, nx2, rfl, -, hc⟩ := h
      rcases hc with ⟨-, hv, rfl⟩ | ⟨hc, -⟩
      · exact ⟨M2, rfl, h8, F9.rf, hv⟩
      · omega
    · obtain ⟨M2, rfl, ht, hc⟩ := h
      rcases hc with ⟨-, hv, hs⟩ | ⟨hc, -⟩
      · exact ⟨M2, rfl, hI.s9 hs, hs.f8, ht, fun _ => hv⟩
      · omega
  · have hk := hp.2.2.2.2.1 (n - 1) (by omega) (by omega)
    have eqr : ∀ j, 0 ≤ j → j < 91 → ovr S (Hs (n - 1)) 91 j = Hs (n - 1) j := fun j a c => if_pos ⟨a, c⟩
    have ok : Ok (ovr S (Hs (n - 1)) 91) := Ok_eq eqr hk.1
    have nq : NQ S (ovr S (Hs (n - 1)) 91) := fun j a c => (eqr j (by omega) (by omega)).trans (hk.2 j a c)
    refine ⟨n - 1, (ovr S (Hs (n - 1)) 91, B, n - 1, Hs, p, bf, ek, ep), ⟨ok, nq.nb hp.2.1, hp.2.2.1, hp.2.2.2.1, fun i i0 i1 => ⟨(hp.2.2.2.2.1 i i0 (by omega)).1, nq.sy.tr (hp.2.2.2.2.1 i i0 (by omega)).2⟩, hp.2.2.2.2.2⟩, (ct8_undo M b nx n Hs hH).mono (fun v σ' h => ?_), fun M' b' hI => (cq9_undo M' b' S n Hs hI.1 hI.2.2.2.1).mono (fun v σ' h => ?_)⟩
    · obtain ⟨M2, nx2, rfl, hs, hc⟩ := h
      rcases hc with ⟨hc, -⟩ | ⟨-, hv, hH2, hR2⟩
      · omega
      · exact e_plain h8 hE nq hv ⟨M2, nx2, rfl, hs, plR_eq eqr hk.1 (hR2 hk.1), hH2⟩
    · obtain ⟨M2, rfl, ht, hc⟩ := h
      rcases hc with ⟨hc, -⟩ | ⟨-, hv, hs, hS, hH2⟩
      · omega
      · exact e_ref0 hI ⟨M2, rfl, ht, Or.inl ⟨rfl, hv, hs, hS, hH2⟩⟩
theorem op_setPeriod (M : Id4 → Int → Int) (b : Bool) (st : ST) (e : Int) (he : inR e) (h8 : I8 M st) (hp : PUs st) : ∃ U t V st', U ≤ 8 ∧ (0 ≤ t ∧ t ≤ 3) ∧ PUs st' ∧ CtH 14 U yL_setPeriod cL_setPeriod 4 (some .int) [(0, 9, 12, 13), (0, 9, 15, 100)] [aR (8, 0, 0, 0), aI e, aR (10, 0, 1, 0)] (M, R0 b) (AW8 M t V st') ∧ ∀ M' b', I9 M' st → CtI 4 0 yX9_setPeriod cX9_setPeriod 5 (some .int) [aR (9, 0, 0, 0), aI e] (M', R0 b') (AR9 M' b' t V st') := by
  obtain ⟨S, B, n, Hs, p, bf, ek, ep⟩ := st
  have hR : plR M 0 S := h8.1
  have hO : Ok S := hp.1
  have hT := hO.1
  have hE := hO.2.1
  have hN := hO.2.2.1
  obtain ⟨nx, hH⟩ := h8.2.2.2.2.2.1
  have hn := hH.1.2.2.2
  obtain ⟨t, ht1, ht2, ht3, htb⟩ : ∃ t : Int, (2 ≤ e ∧ e ≤ 24 → fitS S e → t = 0) ∧ (2 ≤ e ∧ e ≤ 24 → ¬ fitS S e → t = 2) ∧ (¬ (2 ≤ e ∧ e ≤ 24) → t = 1) ∧ 0 ≤ t ∧ t ≤ 3 := by
    by_cases z : 2 ≤ e ∧ e ≤ 24
    · by_cases y : fitS S e
      · exact ⟨0, fun _ _ => rfl, fun _ w => absurd y w, fun w => absurd z w, by decide⟩
      · exact ⟨2, fun _ w => absurd w y, fun _ _ => rfl, fun w => absurd z w, by decide⟩
    · exact ⟨1, fun w => absurd w z, fun w => absurd w z, fun _ => rfl, by decide⟩
  have t0 : t = 0 → (2 ≤ e ∧ e ≤ 24) ∧ fitS S e := fun y => by
    by_cases z : 2 ≤ e ∧ e ≤ 24
    · refine ⟨z, Classical.byContradiction fun w => ?_⟩
      have := ht2 z w
      omega
    · have := ht3 z
      omega
  refine ⟨2, t, S 0, swt t (mtS (upS S 0 e) (fun x => x % e) (S 1), B, min (n + 1) 10, pushH n Hs S, p, bf, ek, ep) (S, B, n, Hs, p, bf, ek, ep), by decide, (by first | exact t1b | exact t2b | exact t3b | decide | omega), e_pu hp hn (fun z => ?_), ?_, fun M' b' hI => ?_⟩
  · exact ⟨ok_period hO (t0 z).1 (t0 z).2, (NQ.rf.up (Or.inl rfl)).mt⟩
  · refine (ch_setPeriod M (R0 b) e (cx8_setPeriod M b S nx n Hs e he hR hO hH) (fun E σ' h => ?_)).mono (fun r σ' hq => e_wrap (b := b) h8 hE hq (fun v σ' h => ?_) (fun j E σ' hj h => ?_))
    · rcases h.2 with ⟨rfl, -⟩ | ⟨rfl, -⟩ <;> simp
    · obtain ⟨hv, ⟨hc, hc2⟩, he8⟩ := h
      exact ⟨hv, ht1 hc hc2, (NQ.rf.up (Or.inl rfl)).mt, he8⟩
    · obtain ⟨hs, hc⟩ := h
      rcases nm2 hj with ⟨rfl, rfl⟩ | ⟨rfl, rfl⟩
      · rcases hc with ⟨-, hc⟩ | ⟨hc, -⟩
        · exact ⟨(ht3 hc).symm, hs ▸ K8.rf⟩
        · exact absurd hc (by decide)
      · rcases hc with ⟨hc, -⟩ | ⟨-, hc, hc2⟩
        · exact absurd hc (by decide)
        · exact ⟨(ht2 hc hc2).symm, hs ▸ K8.rf⟩
  · refine (cq9_setPeriod M' b' S n Hs e he hI.1 hO hI.2.2.2.1).mono (fun v σ' hq => ?_)
    obtain ⟨t', w1, w2, w3⟩ := hq
    have et : t' = t := by
      by_cases z : 2 ≤ e ∧ e ≤ 24
      · by_cases y : fitS S e
        · rw [(w1 z).1 y, ht1 z y]
        · rw [(w1 z).2 y, ht2 z y]
      · rw [w2 z, ht3 z]
    subst et
    exact e_ref hI w3
theorem PCh.put {p : Pg} {c : Int} (h0 : 0 ≤ p.2) (hc : 0 ≤ c ∧ c < 65536) (h : PCh p) : PCh (pPut p c) ∧ 0 ≤ (pPut p c).2 := by
  by_cases z : p.2 < 160
  · have e1 : pPut p c = (upS p.1 p.2 c, p.2 + 1) := by
      unfold pPut putS putL
      rw [if_pos z, if_pos z]
    rw [e1]
    refine ⟨fun k k0 k1 => ?_, by show 0 ≤ p.2 + 1; omega⟩
    have k2 : k < p.2 + 1 := k1
    show 0 ≤ upS p.1 p.2 c k ∧ upS p.1 p.2 c k < 65536
    by_cases y : k = p.2
    · rw [y, upS_same]
      exact hc
    · rw [upS_ne y]
      exact h k k0 (by omega)
  · have e1 : pPut p c = p := by
      unfold pPut putS putL
      rw [if_neg z, if_neg z]
    rw [e1]
    exact ⟨h, h0⟩
theorem PCh.num {p : Pg} {x : Int} (h0 : 0 ≤ p.2) (h : PCh p) : PCh (pNum p x) ∧ 0 ≤ (pNum p x).2 := by
  have a1 : PCh (pSg p x) ∧ 0 ≤ (pSg p x).2 := by
    unfold pSg
    split
    · exact PCh.put h0 (by decide) h
    · exact ⟨h, h0⟩
  have a2 : PCh (pHn (pSg p x) (absI x)) ∧ 0 ≤ (pHn (pSg p x) (absI x)).2 := by
    unfold pHn
    split
    · exact PCh.put a1.2 (by omega) a1.1
    · exact a1
  have a3 : PCh (pTn (pHn (pSg p x) (absI x)) (absI x)) ∧ 0 ≤ (pTn (pHn (pSg p x) (absI x)) (absI x)).2 := by
    unfold pTn
    split
    · exact PCh.put a2.2 (by omega) a2.1
    · exact a2
  exact PCh.put a3.2 (by omega) a3.1
theorem PCh.wd {p : Pg} {W : Int → Int} (h0 : 0 ≤ p.2) (h : PCh p) : ∀ n : Nat, (∀ k : Int, 0 ≤ k → k < n → 97 ≤ W k ∧ W k ≤ 122) → PCh (pWd p W n) ∧ 0 ≤ (pWd p W n).2
  | 0, _ => ⟨h, h0⟩
  | n + 1, hW => by
    have ih := PCh.wd h0 h n (fun k k0 k1 => hW k k0 (by omega))
    have := hW n (by omega) (by omega)
    exact PCh.put ih.2 (by omega) ih.1
theorem PCh.ev {W : Int → Int → Int} {l S : Int → Int} {p : Pg} (h0 : 0 ≤ p.2) (h : PCh p) : ∀ n : Nat, (∀ e : Int, 0 ≤ e → e < n → 1 ≤ l e ∧ LT (W e) 0 (l e)) → PCh (evW W l S p n) ∧ 0 ≤ (evW W l S p n).2
  | 0, _ => ⟨h, h0⟩
  | n + 1, hW => by
    have ih := PCh.ev (S := S) h0 h n (fun k k0 k1 => hW k k0 (by omega))
    have hw := hW n (by omega) (by omega)
    have a1 : PCh (if n = 0 then evW W l S p n else pPut (evW W l S p n) 32) ∧ 0 ≤ (if n = 0 then evW W l S p n else pPut (evW W l S p n) 32).2 := by
      split
      · exact ih
      · exact PCh.put ih.2 (by decide) ih.1
    have a2 := PCh.wd (W := W n) a1.2 a1.1 (l n).toNat (fun k k0 k1 => hw.2 k k0 (by omega))
    have a3 := PCh.put (c := 61) a2.2 (by decide) a2.1
    exact PCh.num a3.2 a3.1
theorem PCh.br {S : Int → Int} {p : Pg} (h0 : 0 ≤ p.2) (h : PCh p) : ∀ n : Nat, PCh (brW S p n) ∧ 0 ≤ (brW S p n).2
  | 0 => ⟨h, h0⟩
  | n + 1 => by
    have ih := PCh.br (S := S) h0 h n
    unfold brW
    split
    · exact ih
    · have a1 := PCh.put (c := 32) ih.2 (by decide) ih.1
      have a2 := PCh.put (c := 33) a1.2 (by decide) a1.1
      exact PCh.num a2.2 a2.1
theorem PCh.cy {S : Int → Int} {c : Int} {p : Pg} (h0 : 0 ≤ p.2) (h : PCh p) : ∀ n : Nat, PCh (cyW S c p n) ∧ 0 ≤ (cyW S c p n).2
  | 0 => ⟨h, h0⟩
  | n + 1 => by
    have ih := PCh.cy (S := S) (c := c) h0 h n
    have a1 := PCh.put (c := if cyB S c n = 0 then 45 else 43) ih.2 (by split <;> decide) ih.1
    exact PCh.num a1.2 a1.1
theorem pch0 {A : Int → Int} : PCh (A, 0) := fun k k0 k1 => by
  have : k < 0 := k1
  omega
def AP9 (M : Id4 → Int → Int) (b : Bool) (V : Int) (st : ST) (v : Int) (σ' : Hp) : Prop := ∃ M', σ' = (M', R0 b) ∧ I9 M' st ∧ F8 M M' ∧ v = V
theorem AR9.p {M : Id4 → Int → Int} {b : Bool} {V : Int} {st : ST} {v : Int} {σ' : Hp} (h : AR9 M b 0 V st v σ') : AP9 M b V st v σ' := by
  obtain ⟨M', e, i, f, -, h5⟩ := h
  exact ⟨M', e, i, f, h5 rfl⟩
theorem I9.o9 {M M' : Id4 → Int → Int} {S B : Int → Int} {n : Int} {Hs : Int → Int → Int} {p P2 : Pg} {bf ek ep : Int} (h : o9 M M') (hg : PgR9 M' P2) (hI : I9 M (S, B, n, Hs, p, bf, ek, ep)) : I9 M' (S, B, n, Hs, P2, bf, ek, ep) ∧ F8 M M' := by
  obtain ⟨g1, g2, g3, g4, ⟨g5, g6⟩, g7⟩ := hI
  refine ⟨⟨h.s.trans g1, (funext fun k => h _ k (by unfold scr9; simp) : M' (9, 0, 6, 0) = M (9, 0, 6, 0)).trans g2, (h _ _ (by unfold scr9; simp)).trans g3, ⟨⟨(h _ _ (by unfold scr9; simp)).trans g4.1.1, g4.1.2⟩, fun i j i0 i1 j0 j1 => (h _ _ (by unfold scr9; simp)).trans (g4.2 i j i0 i1 j0 j1)⟩, ⟨(h _ _ (by unfold scr9; simp)).trans g5, (h _ _ (by unfold scr9; simp)).trans g6⟩, hg⟩, fun q hq => funext fun k => h q k (fun z => ?_)⟩
  rcases z with z | z | z
  · exact hq z.1
  · exact hq (by rw [z])
  · exact hq (by rw [z.1])
theorem op_write (M : Id4 → Int → Int) (b : Bool) (st : ST)  (h8 : I8 M st) (hp : PUs st) : ∃ V st', PUs st' ∧ CtI 5 0 yX8_write cX8_write 2 (some .int) [aR (8, 0, 0, 0)] (M, R0 b) (AP8 M b V st') ∧ ∀ M' b', I9 M' st → CtI 9 0 yX9_write cX9_write 2 (some .int) [aR (9, 0, 0, 0)] (M', R0 b') (AP9 M' b' V st') := by
  obtain ⟨S, B, n, Hs, p, bf, ek, ep⟩ := st
  have hR : plR M 0 S := h8.1
  have hO : Ok S := hp.1
  have hT := hO.1
  have hE := hO.2.1
  have hN := hO.2.2.1
  obtain ⟨nx, hH⟩ := h8.2.2.2.2.2.1
  have hn := hH.1.2.2.2
  have hNm : NmR M 0 (S 1) S := h8.2.1
  have hpg : PgR M p := h8.2.2.2.2.2.2.2
  obtain ⟨P2, hP2⟩ : ∃ P2, P2 = wrP (fun e => M (3, 0, 11, e)) (M (3, 0, 2, 0)) S p := ⟨_, rfl⟩
  have pch : PCh P2 := by
    rw [hP2]
    have a1 := PCh.ev (W := fun e => M (3, 0, 11, e)) (l := M (3, 0, 2, 0)) (S := S) (p := (p.1, 0)) (Int.le_refl 0) pch0 (S 1).toNat (fun e e0 e1 => by
      have := hNm.2 e e0 (by omega)
      exact ⟨this.1.1, this.2.1⟩)
    exact (PCh.br a1.2 a1.1 _).1
  refine ⟨P2.2, (S, B, n, Hs, P2, bf, ek, ep), ⟨hO, hp.2.1, hp.2.2.1, hp.2.2.2.1, hp.2.2.2.2.1, pch⟩, (ct8_write M b S p hR hO hNm hpg).mono (fun v σ' h => ?_), fun M' b' hI => (cq9_write M' b' (fun e => M (3, 0, 11, e)) (M (3, 0, 2, 0)) S p hI.1 hO (fun e e0 e1 => hNm.2 e e0 e1) hI.2.2.2.2.2).mono (fun v σ' h => ?_)⟩
  · rw [← hP2] at h
    obtain ⟨hv, M2, rfl, hs, hg⟩ := h
    obtain ⟨h1, h2, h3, h4, h5, h6, h7, h9⟩ := h8
    exact ⟨M2, rfl, ⟨hs.pl h1, hs.n h2, fun e k e0 e1 k0 k1 => by rw [hs (3, 1, 11, e) (by simp)]; exact h3 e k e0 e1 k0 k1, fun i i0 i1 => by rw [hs (8, 0, 1, 0) (by simp)]; exact h4 i i0 i1, by rw [hs _ (by simp)]; exact h5, ⟨nx, hH.chg (hs _ (by simp)) (fun q c hq => hs _ (by simp))⟩, ⟨by rw [hs _ (by simp)]; exact h7.1, by rw [hs _ (by simp)]; exact h7.2⟩, hg⟩, fun q hq => hs q (by omega), hv⟩
  · rw [← hP2] at h
    obtain ⟨hv, M2, rfl, hs, hg⟩ := h
    exact ⟨M2, rfl, (I9.o9 hs hg hI).1, (I9.o9 hs hg hI).2, hv⟩
theorem op_writeCycle (M : Id4 → Int → Int) (b : Bool) (st : ST) (e : Int) (he : inR e) (h8 : I8 M st) (hp : PUs st) : ∃ U t V st', U ≤ 8 ∧ (0 ≤ t ∧ t ≤ 3) ∧ PUs st' ∧ CtH 14 U yL_writeCycle cL_writeCycle 4 (some .int) [(0, 9, 12, 21)] [aR (8, 0, 0, 0), aI e, aR (10, 0, 1, 0)] (M, R0 b) (AW8 M t V st') ∧ ∀ M' b', I9 M' st → CtI 19 0 yX9_writeCycle cX9_writeCycle 3 (some .int) [aR (9, 0, 0, 0), aI e] (M', R0 b') (AR9 M' b' t V st') := by
  obtain ⟨S, B, n, Hs, p, bf, ek, ep⟩ := st
  have hR : plR M 0 S := h8.1
  have hO : Ok S := hp.1
  have hT := hO.1
  have hE := hO.2.1
  have hN := hO.2.2.1
  obtain ⟨nx, hH⟩ := h8.2.2.2.2.2.1
  have hn := hH.1.2.2.2
  have hpg : PgR M p := h8.2.2.2.2.2.2.2
  have h80 := h8
  obtain ⟨P2, hP2⟩ : ∃ P2, P2 = wcP S e p := ⟨_, rfl⟩
  have pch : PCh P2 := by
    rw [hP2]
    have a1 := PCh.cy (S := S) (c := e) (p := (p.1, 0)) (Int.le_refl 0) pch0 (cyL S e)
    have a2 := PCh.put (c := 61) a1.2 (by decide) a1.1
    exact (PCh.num a2.2 a2.1).1
  refine ⟨1, 1 - b2i (cyc S e), P2.2, swt (1 - b2i (cyc S e)) (S, B, n, Hs, P2, bf, ek, ep) (S, B, n, Hs, p, bf, ek, ep), by decide, (by first | exact t1b | exact t2b | exact t3b | decide | omega), ?_, (ch_writeCycle M (R0 b) e (cx8_writeCycle M b S e p he hR hO hpg) (fun E σ' h => ?_)).mono (fun r σ' hq => ?_), fun M' b' hI => (cq9_writeCycle M' b' S e p he hI.1 hO hI.2.2.2.2.2).mono (fun v σ' h => ?_)⟩
  · by_cases z : cyc S e
    · rw [swt0 (t1y z)]
      exact ⟨hO, hp.2.1, hp.2.2.1, hp.2.2.2.1, hp.2.2.2.2.1, pch⟩
    · rw [swt1 (by rw [t1n z]; decide)]
      exact hp
  · obtain ⟨rfl, -⟩ := h
    exact List.mem_cons_self
  · rw [← hP2] at hq
    rcases hq with ⟨rfl, v, M1, R1, ⟨rfl, hc, M2, hs0, hs, hg⟩, rfl⟩ | ⟨j, E, hj, rfl, -, hc, M2, rfl, hs⟩
    · cases hs0
      rw [t1y hc, swt0 rfl]
      obtain ⟨h1, h2, h3, h4, h5, h6, h7, h9⟩ := h8
      have kp : ∀ q, (prs8 q ∧ q.1 ≠ 4) → M1 q = M q := fun q hq => hs q (by unfold prs8 at hq; unfold scr8; omega)
      refine ⟨_, b, rfl, I8.out ⟨pl_eq (fun c => kp _ (by unfold prs8; simp)) h1, ⟨by rw [kp _ (by unfold prs8; simp)]; exact h2.1, fun e e0 e1 => by rw [kp (3, 0, 11, e) (by unfold prs8; simp), kp (3, 0, 2, 0) (by unfold prs8; simp)]; exact h2.2 e e0 e1⟩, fun e k e0 e1 k0 k1 => by rw [kp (3, 1, 11, e) (by unfold prs8; simp)]; exact h3 e k e0 e1 k0 k1, fun i i0 i1 => by rw [kp (8, 0, 1, 0) (by unfold prs8; simp)]; exact h4 i i0 i1, by rw [kp _ (by unfold prs8; simp)]; exact h5, ⟨nx, hH.chg (kp _ (by unfold prs8; simp)) (fun q c hq => kp _ (by unfold prs8; simp; omega))⟩, ⟨by rw [kp _ (by unfold prs8; simp)]; exact h7.1, by rw [kp _ (by unfold prs8; simp)]; exact h7.2⟩, hg⟩, F9.up (by decide) (fun q hq => hs q (by unfold scr8; omega)), rfl, fun _ => upd_same⟩
    · obtain ⟨rfl, -⟩ := nm1 hj
      rw [t1n hc, swt1 (by decide)]
      exact ⟨M2, b, rfl, h80.s8 hs, hs.f9, rfl, fun z => absurd z (by decide)⟩
  · rw [← hP2] at h
    obtain ⟨M2, rfl, ht, hc⟩ := h
    rcases hc with ⟨hc, hv, hs, hg⟩ | ⟨hc, hs⟩
    · rw [t1y hc] at ht ⊢
      rw [swt0 rfl]
      exact ⟨M2, rfl, (I9.o9 hs hg hI).1, (I9.o9 hs hg hI).2, ht, fun _ => hv⟩
    · rw [t1n hc] at ht ⊢
      rw [swt1 (by decide)]
      exact ⟨M2, rfl, hI.s9 hs, hs.f8, ht, fun z => absurd z (by decide)⟩
theorem op_written (M : Id4 → Int → Int) (b : Bool) (st : ST) (e : Int) (he : inR e) (h8 : I8 M st) (hp : PUs st) : ∃ U t V st', U ≤ 8 ∧ (0 ≤ t ∧ t ≤ 3) ∧ PUs st' ∧ CtH 13 U yL_written cL_written 4 (some .int) [(0, 9, 12, 21)] [aR (8, 0, 0, 0), aI e, aR (10, 0, 1, 0)] (M, R0 b) (AW8 M t V st') ∧ ∀ M' b', I9 M' st → CtI 2 0 yX9_written cX9_written 2 (some .char) [aR (9, 0, 0, 0), aI e] (M', R0 b') (AR9 M' b' t V st') := by
  obtain ⟨S, B, n, Hs, p, bf, ek, ep⟩ := st
  have hR : plR M 0 S := h8.1
  have hO : Ok S := hp.1
  have hT := hO.1
  have hE := hO.2.1
  have hN := hO.2.2.1
  obtain ⟨nx, hH⟩ := h8.2.2.2.2.2.1
  have hn := hH.1.2.2.2
  have hpg : PgR M p := h8.2.2.2.2.2.2.2
  have pch : PCh p := hp.2.2.2.2.2
  refine ⟨1, 1 - b2i (0 ≤ e ∧ e < p.2), p.1 e, (S, B, n, Hs, p, bf, ek, ep), by decide, t1b, hp, ?_, fun M' b' hI => (cq9_written M' b' e p he hI.2.2.2.2.2 (pch e)).mono (fun v σ' hq => q_ref hI hq)⟩
  refine (ch_written M (R0 b) e (cx8_written M b e p he hpg (pch e)) (fun E σ' h => ?_)).mono (fun r σ' hq => q_wrap (b := b) h8 hq (fun v σ' h => ?_) (fun j E σ' hj h => ?_))
  · obtain ⟨rfl, -⟩ := h
    exact List.mem_cons_self
  · obtain ⟨hv, hc, hs⟩ := h
    exact ⟨hv, t1y hc, hs ▸ K8.rf⟩
  · obtain ⟨rfl, -⟩ := nm1 hj
    obtain ⟨-, hc, hs⟩ := h
    exact ⟨(t1n hc).symm, hs ▸ K8.rf⟩
