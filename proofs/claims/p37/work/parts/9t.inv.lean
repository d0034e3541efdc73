/-! STUBS -/
def IN0 (i : Nat) (τ : Mu) : Prop := WF τ ∧ LK 10 τ ∧ un τ 9 9 = i
theorem in0_0 : IN0 0 τ0 := sorry
theorem in0_ok {i : Nat} {τ : Mu} (h : IN0 i τ) : WF τ ∧ LK 10 τ := sorry
theorem in0_step {i : Nat} {τ U : Mu} {a f t w v : Nat} {bb : Bool} {told : Int32} (h : IN0 i τ) (hi : i < 3) (ha : a < 3) (hf : f < 60) (ht : t < 400) (hw : w < 200) (hv : v < 3000) (g : WR τ (cd3 (rng (nI i) 6 && rng (nI a) 3 && rng (nI f) 720 && rng (nI (300 + t)) 720) (decide ((nI f) ≤ (nI (300 + t))) && inB (nI (300 + w)) (lN 60) (lN 600) && inB (nI (1000 + v)) (lN 0) (lN 1000000)) (decide (un τ 9 9 ≠ 10))) (sI (spS (sI (sI (sI (sI (sI (sI (sI τ 0 (un τ 9 9) (nI i)) 1 (un τ 9 9) (nI a)) 2 (un τ 9 9) (nI f)) 3 (un τ 9 9) (nI (300 + t))) 4 (un τ 9 9) (bI bb)) 5 (un τ 9 9) (nI (300 + w))) 6 (720 * un τ 9 9 + (nI f).toNatClampNeg) (nI (1000 + v))) (un τ 9 9) 720) 9 9 (nI (un τ 9 9 + 1))) (nI (un τ 9 9)) [(-2), (-3), (-4)] told U) : told = nI i ∧ IN0 (i + 1) U := sorry
theorem inv_0 {τ : Mu} (h : IN0 3 τ) : INV 0 τ 3 0 0 := sorry
theorem inv_step {e : Nat} {τ U : Mu} {n0 n1 n2 m0 m1 m2 : Nat} {told : Int32} (h : INV e τ n0 n1 n2) (he : e < 24) (g : AR τ n0 n1 n2 told U m0 m1 m2) : INV (e + 1) U m0 m1 m2 ∧ (told < -1 ∧ (-9) < told → ∀ k, k < 24 → tlV U k = tlV τ k) := sorry
