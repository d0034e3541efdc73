theorem baseD_le {τ : Mu} (hw : WF τ) {c m : Nat} (hc : c < un τ 9 9) (hm : m < 24) : baseD τ c m ≤ 57600000000 := by
  have h1 := sumD_le hw (m := 30 * m) (n := 30) hc (by omega)
  unfold baseD
  refine rN_le (by split <;> decide) ?_
  split <;> omega
theorem baseW_le {τ : Mu} (hw : WF τ) {c m n : Nat} (hc : c < un τ 9 9) (hn : n ≤ 103) : baseW τ c m n ≤ n * 3360000000 := sumN_le fun i hi => by
  show (if lastD (0 + i) / 30 = m then overP τ c (0 + i) else 0) ≤ _
  split
  · exact overP_le hw hc (by omega)
  · omega
theorem leaveP_le {τ : Mu} (hw : WF τ) {lt : Nat → Nat} {c m k : Nat} (hc : c < un τ 9 9) (hk : k < un τ 17 17) : leaveP τ lt c m k ≤ 10000000 := by
  unfold leaveP
  split
  · refine rN_le (by decide) ?_
    have h1 := payD_le hw (d := un τ 15 k) hc (by have := (hw.ld k hk).1.2; omega)
    exact Nat.le_trans (Nat.mul_le_mul (hw.cn c hc).2 h1) (by decide)
  · exact Nat.zero_le _
theorem leaveS_le {τ : Mu} (hw : WF τ) {lt : Nat → Nat} {c m n : Nat} (hc : c < un τ 9 9) (hn : n ≤ un τ 17 17) : sumN (leaveP τ lt c m) 0 n ≤ n * 10000000 := sumN_le fun i hi => leaveP_le hw hc (by omega)
theorem baseN_le {τ : Mu} (hw : WF τ) {lt : Nat → Nat} {c m : Nat} (hc : c < un τ 9 9) (hm : m < 24) : baseN τ lt c m ≤ 500000000000 := by
  have h1 := baseD_le hw hc hm
  have h2 := baseW_le (m := m) hw hc (Nat.le_refl 103)
  have h3 := leaveS_le (lt := lt) (m := m) hw hc (Nat.le_refl _)
  have h4 := hw.nl.2
  unfold baseN
  omega
