/-! 73: the words of the language -/
theorem wordN {j : Nat} (hj : j < 3) : 0 ≤ wLenI j ∧ wLenI j ≤ 6 := by
  have := wLen_I j hj
  omega