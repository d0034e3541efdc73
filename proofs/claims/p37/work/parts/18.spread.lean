/-! THE REFERENCE: formulas, a year's tax, pays that hold -/
def spS (τ : Mu) (c n : Nat) : Mu := (fun k x => if k = 7 ∧ 720 * c ≤ x ∧ x < 720 * c + n then spreadV τ c (x - 720 * c + 1) else τ.1 k x, τ.2)
theorem spS_o (τ : Mu) (c n k x : Nat) (h : k ≠ 7) : (spS τ c n).1 k x = τ.1 k x := if_neg (fun q => h q.1)
