/-! 67: a text, read: kind and place of the error (kind 0: none), the row, the place behind -/
abbrev PR : Type := Int × Int × (Int → Int) × Int
def badP (B : Int → Int) (n i which : Int) : PR := (if kdT B n i = 1 then 1 else which, stT B n i, fun _ => 0, 0)
def goodP (S : Int → Int) (i : Int) : PR := (0, 0, S, i)
def bindP (r : PR) (f : (Int → Int) → Int → PR) : PR := if r.1 = 0 then f r.2.2.1 r.2.2.2 else r
def numP (B : Int → Int) (n idx lo hi : Int) (S : Int → Int) (i : Int) : PR := if ¬ kdT B n i = 3 then badP B n i 2 else if ¬ (lo ≤ vlT B n i ∧ vlT B n i ≤ hi) then badP B n i 3 else goodP (upS S idx (vlT B n i)) (nxT B n i)
def closP (B : Int → Int) (n : Int) (S : Int → Int) (i : Int) : PR := if ¬ kdT B n i = 4 then badP B n i 2 else goodP S (nxT B n i)
/-- the code of the letters from a to b -/
def cdN (B : Int → Int) (a : Int) : Nat → Int
  | 0 => 0
  | n + 1 => 27 * cdN B a n + B (a + n) - 97 + 1
def cdI (B : Int → Int) (a b : Int) : Int := cdN B a (b - a).toNat
/-- the first event with the name of the letters from a to b, or -1 -/
def nmE (B S : Int → Int) (a b e : Int) : Prop := S (2 + 2 * e) = cdI B a (min b (a + 4)) ∧ S (2 + 2 * e + 1) = cdI B (min b (a + 4)) b
noncomputable def nmF (B S : Int → Int) (a b : Int) : Nat → Int → Int
  | 0, _ => -1
  | f + 1, e => @ite Int (nmE B S a b e) (Classical.propDecidable _) e (nmF B S a b f (e + 1))
noncomputable def nmD (B S : Int → Int) (a b : Int) : Int := nmF B S a b (S 1).toNat 0
theorem nmF_bd {B S : Int → Int} {a b : Int} : ∀ (f : Nat) (e : Int), nmF B S a b f e = -1 ∨ (e ≤ nmF B S a b f e ∧ nmF B S a b f e < e + f)
  | 0, e => Or.inl rfl
  | f + 1, e => by
    unfold nmF
    by_cases z : nmE B S a b e
    · rw [if_pos z]; omega
    · rw [if_neg z]
      have := nmF_bd (B := B) (S := S) (a := a) (b := b) f (e + 1)
      omega
theorem nmD_bd {B S : Int → Int} {a b : Int} : nmD B S a b = -1 ∨ (0 ≤ nmD B S a b ∧ nmD B S a b < S 1) := by
  have := nmF_bd (B := B) (S := S) (a := a) (b := b) (S 1).toNat 0
  unfold nmD
  omega
noncomputable def evIn (B : Int → Int) (n idx but : Int) (S : Int → Int) (i : Int) : PR := if ¬ kdT B n i = 2 then badP B n i 2 else if nmD B S (stT B n i) (nxT B n i) = -1 ∨ nmD B S (stT B n i) (nxT B n i) = but then badP B n i 4 else goodP (upS S idx (nmD B S (stT B n i) (nxT B n i))) (nxT B n i)
def wLenI (w : Int) : Int := if w = 0 then 6 else if w = 1 then 5 else 4
def wBytI (w j : Int) : Int := if w = 0 then (if j = 0 then 112 else if j = 1 then 101 else if j = 2 then 114 else if j = 3 then 105 else if j = 4 then 111 else 100) else if w = 1 then (if j = 0 then 101 else if j = 1 then 118 else if j = 2 then 101 else if j = 3 then 110 else 116) else (if j = 0 then 115 else if j = 1 then 112 else if j = 2 then 97 else 110)
/-- the token behind i is the word w -/
def isWd (B : Int → Int) (n i w : Int) : Prop := kdT B n i = 2 ∧ nxT B n i - stT B n i = wLenI w ∧ ∀ j, 0 ≤ j → j < wLenI w → B (stT B n i + j) = wBytI w j
noncomputable def wdI (B : Int → Int) (n i w : Int) : Int := @ite Int (isWd B n i w) (Classical.propDecidable _) 1 0
theorem wdI_1 {B : Int → Int} {n i w : Int} (h : isWd B n i w) : wdI B n i w = 1 := if_pos h
theorem wdI_0 {B : Int → Int} {n i w : Int} (h : ¬ isWd B n i w) : wdI B n i w = 0 := if_neg h
theorem wdI_01 {B : Int → Int} {n i w : Int} : wdI B n i w = 0 ∨ wdI B n i w = 1 := by
  by_cases h : isWd B n i w
  · exact Or.inr (wdI_1 h)
  · exact Or.inl (wdI_0 h)
noncomputable def perP (B : Int → Int) (n : Int) (S : Int → Int) (i : Int) : PR := if wdI B n i 0 = 0 then badP B n i 2 else numP B n 0 2 24 S (nxT B n i)
/-- the row with the name of the letters from a to b behind the others -/
def nmU (B S : Int → Int) (a b : Int) : Int → Int := upS (upS S (2 + 2 * S 1) (cdI B a (min b (a + 4)))) (2 + 2 * S 1 + 1) (cdI B (min b (a + 4)) b)
noncomputable def evP (B : Int → Int) (n : Int) (S : Int → Int) (i : Int) : PR := if S 1 = 6 then badP B n i 5 else if ¬ kdT B n (nxT B n i) = 2 then badP B n (nxT B n i) 2 else if ¬ nmD B S (stT B n (nxT B n i)) (nxT B n (nxT B n i)) = -1 then badP B n (nxT B n i) 4 else bindP (numP B n (14 + S 1) 0 (S 0 - 1) (nmU B S (stT B n (nxT B n i)) (nxT B n (nxT B n i))) (nxT B n (nxT B n i))) (fun S' i' => goodP (upS S' 1 (S' 1 + 1)) i')
def weP (B : Int → Int) (n idx : Int) (S : Int → Int) (i : Int) : PR := if kdT B n i = 3 then numP B n idx 0 20 (upS S idx 1) i else goodP (upS S idx 1) i
noncomputable def spP (B : Int → Int) (n : Int) (S : Int → Int) (i : Int) : PR := if S 20 = 14 then badP B n i 5 else bindP (evIn B n (21 + 5 * S 20 + 0) (-1) S (nxT B n i)) (fun S1 i1 => bindP (evIn B n (21 + 5 * S 20 + 1) (S1 (21 + 5 * S 20 + 0)) S1 i1) (fun S2 i2 => bindP (numP B n (21 + 5 * S 20 + 2) 0 48 S2 i2) (fun S3 i3 => bindP (numP B n (21 + 5 * S 20 + 3) (S3 (21 + 5 * S 20 + 2)) (S3 (21 + 5 * S 20 + 2) + S3 0 - 1) S3 i3) (fun S4 i4 => bindP (weP B n (21 + 5 * S 20 + 4) S4 i4) (fun S5 i5 => goodP (upS S5 20 (S5 20 + 1)) i5)))))
noncomputable def stP1 (B : Int → Int) (n : Int) (S : Int → Int) (i : Int) : PR := if ¬ wdI B n i 1 = 0 then evP B n S i else if ¬ wdI B n i 2 = 0 then spP B n S i else badP B n i 2
noncomputable def stsP (B : Int → Int) (n : Int) : Nat → (Int → Int) → Int → PR
  | 0, S, i => goodP S i
  | f + 1, S, i => if kdT B n i = 0 then goodP S i else bindP (stP1 B n S i) (fun S1 i1 => bindP (closP B n S1 i1) (fun S2 i2 => stsP B n f S2 i2))
def row0 (S : Int → Int) (j : Int) : Int := if 0 ≤ j ∧ j < 91 then (if j = 0 then 12 else 0) else S j
noncomputable def prsP (B S : Int → Int) (n : Int) : PR := if kdT B n 0 = 0 then goodP (row0 S) 0 else bindP (bindP (perP B n (row0 S) 0) (closP B n)) (fun S i => stsP B n 500 S i)
theorem badP_ne {B : Int → Int} {n i which : Int} (h : ¬ which = 0) : ¬ (badP B n i which).1 = 0 := by
  unfold badP
  dsimp only
  split <;> omega
theorem bind_bad {r : PR} {f : (Int → Int) → Int → PR} (h : ¬ r.1 = 0) : bindP r f = r := if_neg h
theorem bind_good {r : PR} {f : (Int → Int) → Int → PR} (h : r.1 = 0) : bindP r f = f r.2.2.1 r.2.2.2 := if_pos h
theorem numP_good {B : Int → Int} {n idx lo hi i : Int} {S : Int → Int} (h : (numP B n idx lo hi S i).1 = 0) : (numP B n idx lo hi S i) = goodP (upS S idx (vlT B n i)) (nxT B n i) ∧ kdT B n i = 3 ∧ lo ≤ vlT B n i ∧ vlT B n i ≤ hi := by
  unfold numP at h ⊢
  by_cases z : kdT B n i = 3
  · by_cases y : lo ≤ vlT B n i ∧ vlT B n i ≤ hi
    · rw [if_neg (fun w => w z), if_neg (fun w => w y)]
      exact ⟨rfl, z, y⟩
    · rw [if_neg (fun w => w z), if_pos y] at h
      exact absurd h (badP_ne (by decide))
  · rw [if_pos z] at h
    exact absurd h (badP_ne (by decide))
theorem closP_good {B : Int → Int} {n i : Int} {S : Int → Int} (h : (closP B n S i).1 = 0) : closP B n S i = goodP S (nxT B n i) ∧ kdT B n i = 4 := by
  unfold closP at h ⊢
  by_cases z : kdT B n i = 4
  · rw [if_neg (fun w => w z)]
    exact ⟨rfl, z⟩
  · rw [if_pos z] at h
    exact absurd h (badP_ne (by decide))
theorem evIn_good {B : Int → Int} {n idx but i : Int} {S : Int → Int} (h : (evIn B n idx but S i).1 = 0) : evIn B n idx but S i = goodP (upS S idx (nmD B S (stT B n i) (nxT B n i))) (nxT B n i) ∧ kdT B n i = 2 ∧ (0 ≤ nmD B S (stT B n i) (nxT B n i) ∧ nmD B S (stT B n i) (nxT B n i) < S 1) ∧ ¬ nmD B S (stT B n i) (nxT B n i) = but := by
  have nb := nmD_bd (B := B) (S := S) (a := stT B n i) (b := nxT B n i)
  unfold evIn at h ⊢
  by_cases z : kdT B n i = 2
  · by_cases y : nmD B S (stT B n i) (nxT B n i) = -1 ∨ nmD B S (stT B n i) (nxT B n i) = but
    · rw [if_neg (fun w => w z), if_pos y] at h
      exact absurd h (badP_ne (by decide))
    · rw [if_neg (fun w => w z), if_neg y]
      exact ⟨rfl, z, by omega, by omega⟩
  · rw [if_pos z] at h
    exact absurd h (badP_ne (by decide))
theorem weP_3 {B : Int → Int} {n idx i : Int} {S : Int → Int} (h : kdT B n i = 3) : weP B n idx S i = numP B n idx 0 20 (upS S idx 1) i := if_pos h
theorem weP_0 {B : Int → Int} {n idx i : Int} {S : Int → Int} (h : ¬ kdT B n i = 3) : weP B n idx S i = goodP (upS S idx 1) i := if_neg h
