/-! 29: the first broken span -/
def fbS (S : Int → Int) : Int := fstB (fun k => ¬ kept S k) (S 20).toNat 0