/-! 51: the class closes its cycles, and answers about them -/
/-- the class of cycles alone -/
def same0 (M M' : Id4 → Int → Int) : Prop := ∀ q, ¬ q.1 = 0 → M' q = M q
theorem same0.rf {M : Id4 → Int → Int} : same0 M M := fun _ _ => rfl
theorem same0.tr {M M1 M2 : Id4 → Int → Int} (h1 : same0 M M1) (h2 : same0 M1 M2) : same0 M M2 := fun q h => (h2 q h).trans (h1 q h)
theorem same0.up {M M1 : Id4 → Int → Int} {i : Int} {c : Nat} {r k v : Int} (h1 : same0 M M1) : same0 M (updM M1 (0, i, c, r) k v) := fun q h => (upd_off (fun z => h (by rw [z]))).trans (h1 q h)
theorem same0.st {M M1 : Id4 → Int → Int} {i : Int} {c : Nat} {r : Int} {A : Int → Int} (h1 : same0 M M1) : same0 M (setA M1 (0, i, c, r) A) := fun q h => (setA_ne (fun z => h (by rw [z]))).trans (h1 q h)
theorem same0.s8 {M M' : Id4 → Int → Int} (h : same0 M M') : same8 M M' := fun q z => h q (fun y => z (Or.inl y))
theorem same0.pl {M M' : Id4 → Int → Int} {S : Int → Int} (h : same0 M M') (hR : plR M 0 S) : plR M' 0 S := pl_eq (fun c => h _ (by simp)) hR