/-! THE REFERENCE: leave, grossFor -/
def gfB (τ : Mu) (A p m : Nat) (due : Int64) (i : Nat) : Bool := decide (due ≤ ntL (sI τ 30 A (τ.1 30 A + nI (10000 * (i + 1)))) p m)
def gfO (τ : Mu) (A p m : Nat) (due : Int64) : Int32 := match fstN (gfB τ A p m due) 200 with | some i => nI (10000 * (i + 1)) | none => -1
/-- agrees with τ but at one place of the bonuses -/
def offB (τ σ : Mu) (A : Nat) : Prop := σ.2 = τ.2 ∧ ∀ k x, ¬ (k = 30 ∧ x = A) → σ.1 k x = τ.1 k x
theorem offB.rf (τ : Mu) (A : Nat) : offB τ τ A := ⟨rfl, fun _ _ _ => rfl⟩
theorem offB.of (τ : Mu) (A : Nat) (v : Int32) : offB τ (sI τ 30 A v) A := ⟨rfl, fun k x h => by
  show (if k = 30 then (if x = A then v else τ.1 k x) else τ.1 k x) = _
  by_cases e : k = 30
  · rw [if_pos e, if_neg (fun z => h ⟨e, z⟩)]
  · rw [if_neg e]⟩
theorem bo_add {b : Int32} {n : Nat} (h1 : -10000000 ≤ b.toInt) (h2 : b.toInt ≤ 10000000) (hn : n ≤ 2000000) : -10000000 ≤ (b + nI n).toInt ∧ (b + nI n).toInt ≤ 12000000 := by
  rw [Int32.toInt_add, nI_toInt (by omega)]
  rw [Int.bmod_eq_of_le (by omega) (by omega)]
  omega
def BO (τ : Mu) : Prop := ∀ i, i < 432 → -10000000 ≤ (τ.1 30 i).toInt ∧ (τ.1 30 i).toInt ≤ 10000000

