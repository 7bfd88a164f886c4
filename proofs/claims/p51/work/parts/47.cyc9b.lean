/-! 47: the reference goes round -/
theorem treA.ch {M M' : Id4 → Int → Int} {S : Int → Int} (ht : treA S M) (hc : chW M M') : treA S M' := fun j hj => by rw [hc.t]; exact ht j hj