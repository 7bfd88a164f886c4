/-! 66: the reference goes to the next token -/
/-- the token behind place i stands in the reference's fields -/
def TK (B : Int → Int) (n i : Int) (M : Id4 → Int → Int) : Prop := M (9, 0, 0, 0) 10 = stT B n i ∧ M (9, 0, 0, 0) 11 = nxT B n i ∧ M (9, 0, 0, 0) 12 = kdT B n i ∧ (kdT B n i = 3 → M (9, 0, 0, 0) 13 = vlT B n i)