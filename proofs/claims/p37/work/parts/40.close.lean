theorem flU_I (b : Mu) (D P : Nat → Nat → Nat → Int64) (n f k : Nat) (h : f ≠ 54) : (flU b D P n).1 f k = b.1 f k := if_neg (fun q => h q.1)
