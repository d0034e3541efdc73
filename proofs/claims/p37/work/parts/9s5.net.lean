/-! NETS AND GROSSES over months; what is owed -/
section Net
variable {τ : Mu} {p m q : Nat}
theorem duL_nn (hw : WF τ) (hp : p < 6) (hm : m < 24) (hq : q < 3) : 0 ≤ (duL τ p m q).toInt := by
  have a := bd_add (txY_bd hw hp hq (y := m / 12) (by omega) (j := m % 12) (by omega)) (txL_bd hw hp hq hm) (by decide)
  have z := pz_bd a
  have z2 : bdL (pzL (txY τ p q (m / 12) (m % 12) + txL τ p m q)) 143000000000000 := ⟨by omega, by omega⟩
  have m1 := bd_mulI z2 (k := 12) (by decide) (by decide)
  have x := div_bd (x := pzL (txY τ p q (m / 12) (m % 12) + txL τ p m q) * lN 12) (A := 1716000000000000) (b := m % 12 + 1) ⟨by rw [m1]; omega, by rw [m1]; omega⟩ (by omega) (by omega)
  have s2 := stN_le hw hp hm
  have y := yearL_bd hw (a := 48 * q + 24 * stN τ p m) (m := m) (x := pzL (txY τ p q (m / 12) (m % 12) + txL τ p m q) * lN 12 / lN (m % 12 + 1)) (by omega) ⟨x.1, by have := x.2; omega⟩
  have yb : bdL (yearL τ (48 * q + 24 * stN τ p m) m (pzL (txY τ p q (m / 12) (m % 12) + txL τ p m q) * lN 12 / lN (m % 12 + 1))) 7200000000000 := ⟨by omega, by omega⟩
  have hk : 7200000000000 * (m % 12 + 1) ≤ 7200000000000 * 12 := Nat.mul_le_mul_left _ (by omega)
  have m2 := bd_mulI yb (k := m % 12 + 1) (by omega) (by omega)
  have m3 := bd_mul yb (k := m % 12 + 1) (by omega) (by omega)
  have w := div_bd (x := yearL τ (48 * q + 24 * stN τ p m) m (pzL (txY τ p q (m / 12) (m % 12) + txL τ p m q) * lN 12 / lN (m % 12 + 1)) * lN (m % 12 + 1)) (A := 86400000000000) (b := 12) ⟨by rw [m2]; exact Int.mul_nonneg y.1 (by omega), by have := m3.2; omega⟩ (by decide) (by decide)
  unfold duL dueM
  exact w.1
theorem taL_I (hw : WF τ) (hp : p < 6) (hm : m < 24) (hq : q < 3) : (taL τ p m q).toInt = (duL τ p m q).toInt - (if m % 12 = 0 then 0 else (duL τ p (m - 1) q).toInt) := by
  have d := duL_bd hw hp hm hq
  unfold taL
  by_cases z : m % 12 = 0
  · rw [if_pos z, if_pos z, bd_subI d (bd_0 (B := 0)) (by decide)]; rfl
  · rw [if_neg z, if_neg z, bd_subI d (duL_bd hw hp (by omega) hq) (by decide)]
theorem ta_s (hw : WF τ) (hp : p < 6) (hq : q < 3) : ∀ n, n ≤ 24 → 0 ≤ sumZ (fun m => (taL τ p m q).toInt) n ∧ (n % 12 ≠ 0 → (duL τ p (n - 1) q).toInt ≤ sumZ (fun m => (taL τ p m q).toInt) n)
  | 0, _ => ⟨Int.le_refl _, fun h => absurd rfl h⟩
  | n + 1, hn => by
    obtain ⟨i1, i2⟩ := ta_s hw hp hq n (by omega)
    have d := duL_nn hw hp (m := n) (by omega) hq
    have e := taL_I hw hp (m := n) (by omega) hq
    have k : (duL τ p n q).toInt ≤ sumZ (fun m => (taL τ p m q).toInt) n + (taL τ p n q).toInt := by
      rw [e]
      by_cases z : n % 12 = 0
      · rw [if_pos z]; omega
      · have := i2 z
        rw [if_neg z]; omega
    show 0 ≤ sumZ (fun m => (taL τ p m q).toInt) n + (taL τ p n q).toInt ∧ (_ → _ ≤ sumZ (fun m => (taL τ p m q).toInt) n + (taL τ p n q).toInt)
    exact ⟨by omega, fun _ => k⟩
theorem nt_I (hw : WF τ) (hp : p < 6) (hm : m < 24) : (ntL τ p m).toInt = (allL τ p m).toInt - (pnL τ p m).toInt - ((coL τ p m 0).toInt + (taL τ p m 0).toInt) - ((coL τ p m 1).toInt + (taL τ p m 1).toInt) - ((coL τ p m 2).toInt + (taL τ p m 2).toInt) := by
  have a := allL_bd hw hp hm
  have b := pnL_bd hw hp hm
  have c : ∀ q, q < 3 → bdL (coL τ p m q + taL τ p m q) 300000000000000 ∧ (coL τ p m q + taL τ p m q).toInt = (coL τ p m q).toInt + (taL τ p m q).toInt := fun q hq => ⟨bd_mono (bd_add (coL_bd hw hp hq hm) (taL_bd hw hp hm hq) (by decide)) (by decide), bd_addI (coL_bd hw hp hq hm) (taL_bd hw hp hm hq) (by decide)⟩
  have s0 := bd_sub a b (by decide)
  have s1 := bd_sub s0 (c 0 (by decide)).1 (by decide)
  have s2 := bd_sub s1 (c 1 (by decide)).1 (by decide)
  rw [ntL3, bd_subI s2 (c 2 (by decide)).1 (by decide), bd_subI s1 (c 1 (by decide)).1 (by decide), bd_subI s0 (c 0 (by decide)).1 (by decide), bd_subI a b (by decide), (c 0 (by decide)).2, (c 1 (by decide)).2, (c 2 (by decide)).2]
theorem nt_s (hw : WF τ) (hp : p < 6) : ∀ n, n ≤ 24 → sumZ (fun m => (ntL τ p m).toInt) n ≤ sumZ (fun m => (allL τ p m).toInt) n - sumZ (fun m => (taL τ p m 0).toInt) n - sumZ (fun m => (taL τ p m 1).toInt) n - sumZ (fun m => (taL τ p m 2).toInt) n
  | 0, _ => Int.le_refl _
  | n + 1, hn => by
    have ih := nt_s hw hp n (by omega)
    have e := nt_I hw hp (m := n) (by omega)
    have b := (pnL_nn hw hp (m := n) (by omega)).1
    have c0 := (coL_nn hw hp (q := 0) (by decide) (m := n) (by omega)).1
    have c1 := (coL_nn hw hp (q := 1) (by decide) (m := n) (by omega)).1
    have c2 := (coL_nn hw hp (q := 2) (by decide) (m := n) (by omega)).1
    show sumZ (fun m => (ntL τ p m).toInt) n + (ntL τ p n).toInt ≤ sumZ (fun m => (allL τ p m).toInt) n + (allL τ p n).toInt - (sumZ (fun m => (taL τ p m 0).toInt) n + (taL τ p n 0).toInt) - (sumZ (fun m => (taL τ p m 1).toInt) n + (taL τ p n 1).toInt) - (sumZ (fun m => (taL τ p m 2).toInt) n + (taL τ p n 2).toInt)
    omega
/-- payouts are at most the grosses -/
theorem py_s (hw : WF τ) (hp : p < 6) (had : AD τ p) {n : Nat} (hn : n ≤ 24) : sumZ (fun m => (pyL τ p m).toInt) n ≤ sumZ (fun m => (allL τ p m).toInt) n := by
  have h1 : sumZ (fun m => (pyL τ p m).toInt) n ≤ sumZ (fun m => (ntL τ p m).toInt) n := sumZ_le fun m hm => by
    have a := (pyL_I hw hp had (m := m) (by omega)).2
    have b := (lvL_I hw hp (m := m) (by omega)).1
    omega
  have h2 := nt_s hw hp n hn
  have t0 := (ta_s hw hp (q := 0) (by decide) n hn).1
  have t1 := (ta_s hw hp (q := 1) (by decide) n hn).1
  have t2 := (ta_s hw hp (q := 2) (by decide) n hn).1
  omega
/-- bonuses are small -/
def BNS (τ : Mu) : Prop := ∀ i, i < 432 → (τ.1 30 i).toInt ≤ 69999
theorem gb_3 (hw : WF τ) : ∀ n, n ≤ un τ 9 9 → gbN τ p m 0 n + gbN τ p m 1 n + gbN τ p m 2 n = bsN τ p m n
  | 0, _ => rfl
  | n + 1, hn => by
    have ih := gb_3 hw n (by omega)
    have hp := (hw.cp n (by omega)).2
    show (gbN τ p m 0 n + (if un τ 0 (0 + n) = p ∧ un τ 1 (0 + n) = 0 then baseN τ (ltN τ) (0 + n) m else 0)) + (gbN τ p m 1 n + (if un τ 0 (0 + n) = p ∧ un τ 1 (0 + n) = 1 then baseN τ (ltN τ) (0 + n) m else 0)) + (gbN τ p m 2 n + (if un τ 0 (0 + n) = p ∧ un τ 1 (0 + n) = 2 then baseN τ (ltN τ) (0 + n) m else 0)) = bsN τ p m n + (if un τ 0 (0 + n) = p then baseN τ (ltN τ) (0 + n) m else 0)
    rw [Nat.zero_add]
    generalize baseN τ (ltN τ) n m = B
    by_cases z : un τ 0 n = p
    · rcases (show un τ 1 n = 0 ∨ un τ 1 n = 1 ∨ un τ 1 n = 2 by omega) with h | h | h <;> simp [z, h] <;> omega
    · simp [z]; omega
/-- a month's gross, in all -/
theorem al_I (hw : WF τ) (hp : p < 6) (hm : m < 24) : (allL τ p m).toInt = (τ.1 30 (72 * p + 3 * m + 0)).toInt + (τ.1 30 (72 * p + 3 * m + 1)).toInt + (τ.1 30 (72 * p + 3 * m + 2)).toInt + bsT τ p m + (gE τ p m (un τ 26 26)).toInt := by
  have h9 := hw.nc.2
  have hg := gE_bd (τ := τ) (p := p) (m := m) (un τ 26 26) hw.ne.2
  have hg2 : bdL (gE τ p m (un τ 26 26)) 600000000 := bd_mono hg (by have := hw.ne.2; omega)
  have gb : ∀ i, gbN τ p m i (un τ 9 9) ≤ 5000000000000 := fun i => Nat.le_trans (gbN_le hw hm (Nat.le_refl _)) (by omega)
  have piece : ∀ i, i < 3 → (grL τ p m i).toInt = (τ.1 30 (72 * p + 3 * m + i)).toInt + gbN τ p m i (un τ 9 9) + (if i = homeN τ p m then (gE τ p m (un τ 26 26)).toInt else 0) := fun i hi => by
    have bo := hw.bo (72 * p + 3 * m + i) (by omega)
    have b1 : bdL (boL τ p m i) 12000000 := ⟨by unfold boL; rw [Int32.toInt_toInt64]; omega, by unfold boL; rw [Int32.toInt_toInt64]; omega⟩
    have b2 : bdL (lN (gbN τ p m i (un τ 9 9))) 5000000000000 := bd_lN (gb i) (by decide)
    have b3 : bdL (if i = homeN τ p m then gE τ p m (un τ 26 26) else 0) 600000000 := by
      split
      · exact hg2
      · exact bd_0
    show (boL τ p m i + lN (gbN τ p m i (un τ 9 9)) + (if i = homeN τ p m then gE τ p m (un τ 26 26) else 0)).toInt = _
    rw [bd_addI (bd_add b1 b2 (by decide)) b3 (by decide), bd_addI b1 b2 (by decide), pk_lT (by have := gb i; omega)]
    have e1 : (boL τ p m i).toInt = (τ.1 30 (72 * p + 3 * m + i)).toInt := Int32.toInt_toInt64 _
    have e2 : (if i = homeN τ p m then gE τ p m (un τ 26 26) else 0 : Int64).toInt = (if i = homeN τ p m then (gE τ p m (un τ 26 26)).toInt else 0) := by
      split <;> rfl
    rw [e1, e2]
  have g0 := grL_bd hw hp hm (i := 0) (by decide)
  have g1 := grL_bd hw hp hm (i := 1) (by decide)
  have g2 := grL_bd hw hp hm (i := 2) (by decide)
  have hh := homeN_le hw p m
  have s3 := gb_3 (p := p) (m := m) hw (un τ 9 9) (Nat.le_refl _)
  show (grL τ p m 0 + grL τ p m 1 + grL τ p m 2).toInt = _
  rw [bd_addI (bd_add g0 g1 (by decide)) g2 (by decide), bd_addI g0 g1 (by decide), piece 0 (by decide), piece 1 (by decide), piece 2 (by decide)]
  unfold bsT
  rw [← s3]
  generalize (gE τ p m (un τ 26 26)).toInt = g
  rcases (show homeN τ p m = 0 ∨ homeN τ p m = 1 ∨ homeN τ p m = 2 by omega) with h | h | h <;> rw [h] <;> simp <;> omega
theorem al_le (hw : WF τ) (hb : BNS τ) (hp : p < 6) (hm : m < 24) : (allL τ p m).toInt ≤ 209997 + bsT τ p m + (gE τ p m (un τ 26 26)).toInt := by
  have b0 := hb (72 * p + 3 * m + 0) (by omega)
  have b1 := hb (72 * p + 3 * m + 1) (by omega)
  have b2 := hb (72 * p + 3 * m + 2) (by omega)
  rw [al_I hw hp hm]
  omega
end Net
/-- an amount that the law's cut to an int leaves out of -8 to -2 -/
def GOOD (x : Int) : Prop := 0 < x ∧ x < 8589934584 ∧ ¬ (4294967288 ≤ x ∧ x ≤ 4294967294)
theorem good_32 {v : Int64} (h : GOOD v.toInt) : ¬ (v.toInt32 < -1 ∧ (-9) < v.toInt32) := by
  obtain ⟨h1, h2, h3⟩ := h
  rw [Int32.lt_iff_toInt_lt, Int32.lt_iff_toInt_lt, Int64.toInt_toInt32, show ((-1 : Int32)).toInt = -1 from rfl, show ((-9 : Int32)).toInt = -9 from rfl]
  intro ⟨a, b⟩
  rw [Int.bmod_def] at a b
  omega
/-- payments are above 0; the first three people's are good -/
def GP (τ : Mu) : Prop := ∀ k, k < un τ 51 51 → 0 < (τ.2 49 k).toInt ∧ (un τ 47 k ≤ 2 → GOOD (τ.2 49 k).toInt)
/-- what a person was paid and kept -/
def paidI (τ : Mu) (p n : Nat) : Int := sumZ (fun k => if un τ 47 k = p ∧ un τ 50 k = 0 then (τ.2 49 k).toInt else 0) n
theorem paid_in {τ : Mu} {p : Nat} (hg : GP τ) (hp : p ≤ 2) : ∀ n, n ≤ un τ 51 51 → 0 ≤ paidI τ p n ∧ paidI τ p n ≤ n * 8589934584
  | 0, _ => ⟨Int.le_refl _, Int.le_refl _⟩
  | n + 1, hn => by
    have ih := paid_in hg hp n (by omega)
    have g := hg n (by omega)
    show 0 ≤ paidI τ p n + (if un τ 47 n = p ∧ un τ 50 n = 0 then (τ.2 49 n).toInt else 0) ∧ paidI τ p n + (if un τ 47 n = p ∧ un τ 50 n = 0 then (τ.2 49 n).toInt else 0) ≤ _
    split
    · rename_i z
      have := (g.2 (by omega)).2.1
      omega
    · omega
theorem pd_I {τ : Mu} {p : Nat} (hw : WF τ) (hg : GP τ) (hp : p ≤ 2) {s : Int64} (hs : bdL s 1000000000000000000) : ∀ n, n ≤ un τ 51 51 → (pdL τ p s n).toInt = s.toInt - paidI τ p n
  | 0, _ => by show s.toInt = s.toInt - 0; omega
  | n + 1, hn => by
    have h51 := hw.np.2
    have ih := pd_I hw hg hp hs n (by omega)
    have b := paid_in hg hp n (by omega)
    have g := hg n (by omega)
    obtain ⟨s1, s2⟩ := hs
    show (pdL τ p s n - (if un τ 47 n = p ∧ un τ 50 n = 0 then τ.2 49 n else lN 0)).toInt = s.toInt - (paidI τ p n + (if un τ 47 n = p ∧ un τ 50 n = 0 then (τ.2 49 n).toInt else 0))
    by_cases z : un τ 47 n = p ∧ un τ 50 n = 0
    · have := (g.2 (by omega)).2.1
      rw [if_pos z, if_pos z, bd_subI (A := 1100000000000000000) (B := 8589934584) ⟨by omega, by omega⟩ ⟨by omega, by omega⟩ (by decide), ih]
      omega
    · rw [if_neg z, if_neg z, bd_subI (x := pdL τ p s n) (A := 1100000000000000000) (B := 0) ⟨by omega, by omega⟩ (bd_lN (Nat.le_refl 0) (by decide)) (by decide), ih, z0I]
      omega
