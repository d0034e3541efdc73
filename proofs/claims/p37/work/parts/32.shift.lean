/-! THE REFERENCE: shift, bracket, word -/
def brA (x y z : Int32) (ok : Bool) : Nat := if ok = true then 48 * x.toNatClampNeg + 24 * y.toNatClampNeg + z.toNatClampNeg else 0
theorem brA_lt {x y z : Int32} {ok : Bool} (h : ok = true → rng x 3 = true ∧ rng z 24 = true ∧ inB y (lN 0) (lN 1) = true) : brA x y z ok < 144 := by
  unfold brA
  split
  · rename_i q
    obtain ⟨h1, h2, h3⟩ := h q
    obtain ⟨a, ha, rfl⟩ := rng_t h1
    obtain ⟨b, hb, rfl⟩ := rng_t h2
    obtain ⟨c, _, hc, rfl⟩ := inB_N (by decide) (by decide) h3
    rw [nI_clamp (by omega), nI_clamp (by omega), nI_clamp (by omega)]; omega
  · decide
def brI (x y z t n : Int32) : Nat := brA x y z ((rng x 3 && rng z 24) && (inB y (lN 0) (lN 1) && inB t (lN 1) (lN 1000000000) && inB n (lN 0) (lN 900)))
theorem sI_s {τ : Mu} {k x : Nat} {v : Int32} : (sI τ k x v).1 k x = v := up2_same _ _ _ _
def wdB (τ : Mu) (x : Int32) : Bool := decide (un τ 24 6 ≠ 10) && (decide (x ≤ nI 3) || decide (2 ≤ fmD τ 6 (un τ 24 6)))
def shB (τ : Mu) (x y z w : Int32) : Bool := decide (un τ 13 13 ≠ 40) && !meetsB τ x.toNatClampNeg (1440 * y.toNatClampNeg + z.toNatClampNeg) w.toNatClampNeg
def shN (n : Nat) : Nat := if 360 < n then n - 30 else n
def shH (n m : Nat) : Nat := if shN n < 1440 - m then shN n else 1440 - m
def shU (τ : Mu) (c d m n : Nat) : Mu := if d < 719 then sI (sI (sI (sI (sI (sI τ 10 (un τ 13 13) (nI c)) 11 (un τ 13 13) (nI (1440 * d + m))) 12 (un τ 13 13) (nI n)) 13 13 (nI (un τ 13 13 + 1))) 8 (720 * c + d) (nI (un τ 8 (720 * c + d) + shH n m))) 8 (720 * c + d + 1) (nI (un τ 8 (720 * c + d + 1) + (shN n - shH n m)))
  else sI (sI (sI (sI (sI τ 10 (un τ 13 13) (nI c)) 11 (un τ 13 13) (nI (1440 * d + m))) 12 (un τ 13 13) (nI n)) 13 13 (nI (un τ 13 13 + 1))) 8 (720 * c + d) (nI (un τ 8 (720 * c + d) + shH n m))
theorem sI_k {τ : Mu} {k x y : Nat} {v : Int32} (h : y ≠ x) : (sI τ k x v).1 k y = τ.1 k y := up2_k _ _ h
theorem shN_le (n : Nat) : shN n ≤ n := by unfold shN; split <;> omega
theorem shH_le (n m : Nat) : shH n m ≤ shN n := by unfold shH; split <;> omega
