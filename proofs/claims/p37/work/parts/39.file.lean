/-! THE REFERENCE: filings, close -/
/-- the sum over people, of a month and place -/
def flS (D : Nat → Nat → Nat → Int64) (k : Nat) : Int64 := sumL (fun i => D i (k % 24) (k / 24)) 6
def flU (b : Mu) (D P : Nat → Nat → Nat → Int64) (n : Nat) : Mu :=
  (fun f k => if f = 54 ∧ k < n ∧ k % 24 ≤ un b 46 46 then b.1 54 k + (if k % 24 < un b 46 46 ∧ (flS D k ≠ b.2 52 k ∨ flS P k ≠ b.2 53 k) then nI 1 else nI 0) else b.1 f k,
   fun f k => if f = 52 ∧ k < n ∧ k % 24 ≤ un b 46 46 then flS D k else if f = 53 ∧ k < n ∧ k % 24 ≤ un b 46 46 then flS P k else b.2 f k)
theorem flU_0 (b : Mu) (D P : Nat → Nat → Nat → Int64) : flU b D P 0 = b := by
  unfold flU
  refine Prod.ext (funext fun f => funext fun k => ?_) (funext fun f => funext fun k => ?_)
  · exact if_neg (fun q => by omega)
  · show (if _ then _ else if _ then _ else _) = _
    rw [if_neg (fun q => by omega), if_neg (fun q => by omega)]
theorem flU_skip (b : Mu) (D P : Nat → Nat → Nat → Int64) {n : Nat} (h : ¬ n % 24 ≤ un b 46 46) : flU b D P (n + 1) = flU b D P n := by
  unfold flU
  have hc : ∀ k, (k < n + 1 ∧ k % 24 ≤ un b 46 46) ↔ (k < n ∧ k % 24 ≤ un b 46 46) := fun k => ⟨fun q => ⟨by have : k ≠ n := fun z => h (z ▸ q.2); omega, q.2⟩, fun q => ⟨by omega, q.2⟩⟩
  refine Prod.ext (funext fun f => funext fun k => ?_) (funext fun f => funext fun k => ?_)
  · exact if_cg ⟨fun q => ⟨q.1, (hc k).mp q.2⟩, fun q => ⟨q.1, (hc k).mpr q.2⟩⟩
  · show (if f = 52 ∧ k < n + 1 ∧ k % 24 ≤ un b 46 46 then flS D k else if f = 53 ∧ k < n + 1 ∧ k % 24 ≤ un b 46 46 then flS P k else b.2 f k) = (if f = 52 ∧ k < n ∧ k % 24 ≤ un b 46 46 then flS D k else if f = 53 ∧ k < n ∧ k % 24 ≤ un b 46 46 then flS P k else b.2 f k)
    rw [if_cg (b := f = 53 ∧ k < n + 1 ∧ k % 24 ≤ un b 46 46) (c := f = 53 ∧ k < n ∧ k % 24 ≤ un b 46 46) ⟨fun q => ⟨q.1, (hc k).mp q.2⟩, fun q => ⟨q.1, (hc k).mpr q.2⟩⟩]
    exact if_cg ⟨fun q => ⟨q.1, (hc k).mp q.2⟩, fun q => ⟨q.1, (hc k).mpr q.2⟩⟩
theorem flU_do (b : Mu) (D P : Nat → Nat → Nat → Int64) {n : Nat} (h : n % 24 ≤ un b 46 46) :
    sL (sL (sI (flU b D P n) 54 n (b.1 54 n + (if n % 24 < un b 46 46 ∧ (flS D n ≠ b.2 52 n ∨ flS P n ≠ b.2 53 n) then nI 1 else nI 0))) 52 n (flS D n)) 53 n (flS P n) = flU b D P (n + 1) := by
  unfold sL sI flU
  refine Prod.ext (funext fun f => funext fun k => ?_) (funext fun f => funext fun k => ?_)
  · show (if f = 54 then (if k = n then _ else (if f = 54 ∧ k < n ∧ k % 24 ≤ un b 46 46 then _ else _)) else (if f = 54 ∧ k < n ∧ k % 24 ≤ un b 46 46 then _ else _)) = (if f = 54 ∧ k < n + 1 ∧ k % 24 ≤ un b 46 46 then _ else _)
    by_cases e : f = 54
    · rw [if_pos e]
      by_cases z : k = n
      · subst z; rw [if_pos rfl]; exact (if_pos ⟨e, by omega, h⟩).symm
      · rw [if_neg z]; exact if_cg ⟨fun q => ⟨q.1, by omega, q.2.2⟩, fun q => ⟨q.1, by omega, q.2.2⟩⟩
    · rw [if_neg e, if_neg (fun q => e q.1), if_neg (fun q => e q.1)]
  · show (if f = 53 then (if k = n then _ else (if f = 52 then (if k = n then _ else (if f = 52 ∧ k < n ∧ k % 24 ≤ un b 46 46 then _ else if f = 53 ∧ k < n ∧ k % 24 ≤ un b 46 46 then _ else _)) else (if f = 52 ∧ k < n ∧ k % 24 ≤ un b 46 46 then _ else if f = 53 ∧ k < n ∧ k % 24 ≤ un b 46 46 then _ else _))) else (if f = 52 then (if k = n then _ else (if f = 52 ∧ k < n ∧ k % 24 ≤ un b 46 46 then _ else if f = 53 ∧ k < n ∧ k % 24 ≤ un b 46 46 then _ else _)) else (if f = 52 ∧ k < n ∧ k % 24 ≤ un b 46 46 then _ else if f = 53 ∧ k < n ∧ k % 24 ≤ un b 46 46 then _ else _))) = (if f = 52 ∧ k < n + 1 ∧ k % 24 ≤ un b 46 46 then _ else if f = 53 ∧ k < n + 1 ∧ k % 24 ≤ un b 46 46 then _ else _)
    by_cases e : f = 53
    · rw [if_pos e, if_neg (show ¬ (f = 52 ∧ k < n + 1 ∧ k % 24 ≤ un b 46 46) by omega)]
      by_cases z : k = n
      · subst z; rw [if_pos rfl, if_pos ⟨e, by omega, h⟩]
      · rw [if_neg z, if_neg (show ¬ f = 52 by omega), if_neg (show ¬ (f = 52 ∧ k < n ∧ k % 24 ≤ un b 46 46) by omega)]
        exact if_cg ⟨fun q => ⟨q.1, by omega, q.2.2⟩, fun q => ⟨q.1, by omega, q.2.2⟩⟩
    · rw [if_neg e]
      by_cases e2 : f = 52
      · rw [if_pos e2]
        by_cases z : k = n
        · subst z; rw [if_pos rfl, if_pos ⟨e2, by omega, h⟩]
        · rw [if_neg z]
          rw [if_neg (show ¬ (f = 53 ∧ k < n ∧ k % 24 ≤ un b 46 46) by omega), if_neg (show ¬ (f = 53 ∧ k < n + 1 ∧ k % 24 ≤ un b 46 46) by omega)]
          exact if_cg ⟨fun q => ⟨q.1, by omega, q.2.2⟩, fun q => ⟨q.1, by omega, q.2.2⟩⟩
      · rw [if_neg e2, if_neg (show ¬ (f = 52 ∧ k < n ∧ k % 24 ≤ un b 46 46) by omega), if_neg (show ¬ (f = 52 ∧ k < n + 1 ∧ k % 24 ≤ un b 46 46) by omega), if_neg (show ¬ (f = 53 ∧ k < n ∧ k % 24 ≤ un b 46 46) by omega), if_neg (show ¬ (f = 53 ∧ k < n + 1 ∧ k % 24 ≤ un b 46 46) by omega)]
theorem flU_L (b : Mu) (D P : Nat → Nat → Nat → Int64) (n f k : Nat) (h : f < 52 ∨ n ≤ k) : (flU b D P n).2 f k = b.2 f k := by
  show (if f = 52 ∧ k < n ∧ k % 24 ≤ un b 46 46 then flS D k else if f = 53 ∧ k < n ∧ k % 24 ≤ un b 46 46 then flS P k else b.2 f k) = b.2 f k
  rw [if_neg (fun q => by omega), if_neg (fun q => by omega)]
theorem flU_52 (b : Mu) (D P : Nat → Nat → Nat → Int64) (n : Nat) : (flU b D P n).2 52 n = b.2 52 n := flU_L b D P n 52 n (.inr (Nat.le_refl _))
theorem flU_53 (b : Mu) (D P : Nat → Nat → Nat → Int64) (n : Nat) : (flU b D P n).2 53 n = b.2 53 n := flU_L b D P n 53 n (.inr (Nat.le_refl _))
theorem flU_54 (b : Mu) (D P : Nat → Nat → Nat → Int64) (n : Nat) : (flU b D P n).1 54 n = b.1 54 n := if_neg (fun q => by omega)
def dueP (τ b : Mu) (q : Nat) : Int64 := pdL b q (sumL (pyL τ q) (un τ 46 46 + 1)) (un b 51 51)
/-- the payments behind q people -/
def clS (τ : Mu) : Nat → Mu
  | 0 => τ
  | q + 1 => if lN 0 < dueP τ (clS τ q) q then sI (sI (sL (sI (sI (clS τ q) 47 (un (clS τ q) 51 51) (nI q)) 48 (un (clS τ q) 51 51) (nI (un τ 46 46))) 49 (un (clS τ q) 51 51) (dueP τ (clS τ q) q)) 50 (un (clS τ q) 51 51) (nI 0)) 51 51 (nI (un (clS τ q) 51 51 + 1)) else clS τ q
theorem clS_lo (τ : Mu) : ∀ q k, k ≤ 46 → ∀ x, (clS τ q).1 k x = τ.1 k x ∧ (clS τ q).2 k x = τ.2 k x
  | 0, _, _, _ => ⟨rfl, rfl⟩
  | q + 1, k, hk, x => by
    have ih := clS_lo τ q k hk x
    unfold clS
    split
    · refine ⟨?_, ?_⟩
      · rw [← ih.1]
        exact (up2_a _ _ (by omega)).trans ((up2_a _ _ (by omega)).trans ((up2_a _ _ (by omega)).trans (up2_a _ _ (by omega))))
      · rw [← ih.2]; exact up2_a _ _ (by omega)
    · exact ih
theorem clS_ok {τ : Mu} (hw : WF τ) (hnp0 : un τ 51 51 ≤ 6 * un τ 46 46) (ho : un τ 46 46 < 24) : ∀ q, q ≤ 6 → okN (clS τ q) 51 51 (6 * un τ 46 46 + q) ∧ (∀ k, k < un (clS τ q) 51 51 → okN (clS τ q) 47 k 5) ∧ (∀ k, k < un (clS τ q) 51 51 → okN (clS τ q) 48 k 23) ∧ (∀ k, k < un (clS τ q) 51 51 → okN (clS τ q) 50 k 1) ∧ un τ 51 51 ≤ un (clS τ q) 51 51
  | 0, _ => ⟨⟨hw.np.1, hnp0⟩, hw.pw, hw.pm, hw.pb, Nat.le_refl _⟩
  | q + 1, hq => by
    obtain ⟨h1, h2, h3, h4, h5⟩ := clS_ok hw hnp0 ho q (by omega)
    have h1b := h1.2
    unfold clS
    split
    · have e51 : un (sI (sI (sL (sI (sI (clS τ q) 47 (un (clS τ q) 51 51) (nI q)) 48 (un (clS τ q) 51 51) (nI (un τ 46 46))) 49 (un (clS τ q) 51 51) (dueP τ (clS τ q) q)) 50 (un (clS τ q) 51 51) (nI 0)) 51 51 (nI (un (clS τ q) 51 51 + 1))) 51 51 = un (clS τ q) 51 51 + 1 := nI_clamp (by omega)
      rw [e51]
      refine ⟨okN_of rfl (by omega) (by omega), fun k hk => ?_, fun k hk => ?_, fun k hk => ?_, by omega⟩
      · exact okN_app (τ := clS τ q) (k := 47) (n := un (clS τ q) 51 51) (v := q) (by omega) (by decide) (h2 k) hk
      · exact okN_app (τ := clS τ q) (k := 48) (n := un (clS τ q) 51 51) (v := un τ 46 46) (by omega) (by decide) (h3 k) hk
      · exact okN_app (τ := clS τ q) (k := 50) (n := un (clS τ q) 51 51) (v := 0) (by omega) (by decide) (h4 k) hk
    · exact ⟨⟨h1.1, by omega⟩, h2, h3, h4, h5⟩
def tx3 (τ : Mu) (i m p : Nat) : Int64 := taL τ i m p
def co3 (τ : Mu) (i m p : Nat) : Int64 := coL τ i m p
/-- what close tells -/
def clU (τ : Mu) : Mu := sI (flU (clS τ 6) (tx3 τ) (co3 τ) 72) 46 46 (nI (un τ 46 46 + 1))
theorem clU_lo (τ : Mu) (k : Nat) (hk : k < 46) (x : Nat) : (clU τ).1 k x = τ.1 k x ∧ (clU τ).2 k x = τ.2 k x := by
  have h := clS_lo τ 6 k (by omega) x
  refine ⟨?_, ?_⟩
  · rw [← h.1]; refine (up2_a _ _ (by omega)).trans ?_; exact if_neg (fun q => by omega)
  · rw [← h.2]; exact flU_L _ _ _ _ _ _ (.inl (by omega))

