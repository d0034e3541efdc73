/-! BOUNDS: what a month comes to -/
theorem div_I {x : Int64} {b : Nat} (h : 0 ≤ x.toInt) (h0 : 0 < b) (hb : b < 2 ^ 62) : (x / lN b).toInt = x.toInt / (b : Int) := by
  have h2 := Int64.toInt_lt x
  have q1 : x.toInt / (b : Int) ≤ x.toInt := Int.ediv_le_self _ h
  have q0 : 0 ≤ x.toInt / (b : Int) := Int.ediv_nonneg h (by omega)
  rw [Int64.toInt_div, pk_lT (by omega), Int.tdiv_eq_ediv_of_nonneg h, Int.bmod_eq_of_le (by omega) (by omega)]
theorem div_bd {x : Int64} {A b : Nat} (h : 0 ≤ x.toInt ∧ x.toInt ≤ (A : Int)) (h0 : 0 < b) (hb : b < 2 ^ 62) : 0 ≤ (x / lN b).toInt ∧ (x / lN b).toInt ≤ (A : Int) := by
  rw [div_I h.1 h0 hb]
  have q1 : x.toInt / (b : Int) ≤ x.toInt := Int.ediv_le_self _ h.1
  exact ⟨Int.ediv_nonneg h.1 (by omega), by omega⟩
theorem yrT_bd {τ : Mu} (hw : WF τ) {i b : Nat} {x : Int64} (hi : i < 144) (hb : b < un τ 33 i) (hx : 0 ≤ x.toInt ∧ x.toInt ≤ 2 ^ 60) : 0 ≤ (yrT τ i b x).toInt ∧ (yrT τ i b x).toInt ≤ 1800000000000 := by
  have e := (hw.be i b hi hb).2
  have r := (hw.bt i b hi hb).2
  have lo : yrLow τ i b ≤ 1000000000 := by
    cases b with
    | zero => exact Nat.zero_le _
    | succ b => exact (hw.be i b hi (by omega)).2
  have hm : 0 ≤ (if x < lN (un τ 34 (4 * i + b)) then x else lN (un τ 34 (4 * i + b))).toInt ∧ (if x < lN (un τ 34 (4 * i + b)) then x else lN (un τ 34 (4 * i + b))).toInt ≤ 1000000000 := by
    have p := pk_lT (n := un τ 34 (4 * i + b)) (by omega)
    split
    · rename_i q
      rw [Int64.lt_iff_toInt_lt, p] at q
      omega
    · rw [p]; omega
  have hp : bdL (yrP τ i b x) 2000000000 := by
    unfold yrP
    exact bd_mono (bd_sub (A := 1000000000) (B := 1000000000) ⟨by omega, hm.2⟩ (bd_lN lo (by decide)) (by decide)) (by decide)
  unfold yrT
  split
  · rename_i q
    rw [Int64.lt_iff_toInt_lt, show (lN 0).toInt = 0 from rfl] at q
    have hk : 2000000000 * un τ 35 (4 * i + b) ≤ 2000000000 * 900 := Nat.mul_le_mul_left _ r
    have m1 := bd_mulI hp (k := un τ 35 (4 * i + b)) (by omega) (by omega)
    have m2 := bd_mul hp (k := un τ 35 (4 * i + b)) (by omega) (by omega)
    have m3 : 0 ≤ (yrP τ i b x * lN (un τ 35 (4 * i + b))).toInt := by rw [m1]; exact Int.mul_nonneg (by omega) (by omega)
    exact div_bd (A := 1800000000000) ⟨m3, by have := m2.2; omega⟩ (by decide) (by decide)
  · rw [show (lN 0).toInt = 0 from rfl]; omega
theorem yrS_bd {τ : Mu} (hw : WF τ) {i : Nat} {x : Int64} (hi : i < 144) (hx : 0 ≤ x.toInt ∧ x.toInt ≤ 2 ^ 60) : ∀ n, n ≤ un τ 33 i → 0 ≤ (yrS τ i x n).toInt ∧ (yrS τ i x n).toInt ≤ (n : Int) * 1800000000000
  | 0, _ => by rw [show yrS τ i x 0 = 0 from rfl, show (0 : Int64).toInt = 0 from rfl]; omega
  | n + 1, hn => by
    have ih := yrS_bd hw hi hx n (by omega)
    have t := yrT_bd hw hi (show n < un τ 33 i by omega) hx
    have h4 := (hw.bn i hi).2
    show 0 ≤ (yrS τ i x n + yrT τ i n x).toInt ∧ (yrS τ i x n + yrT τ i n x).toInt ≤ ((n + 1 : Nat) : Int) * 1800000000000
    rw [bd_addI (A := 7200000000000) (B := 1800000000000) ⟨by omega, by omega⟩ ⟨by omega, by omega⟩ (by decide)]
    omega
theorem yearL_bd {τ : Mu} (hw : WF τ) {a m : Nat} {x : Int64} (ha : a + m < 144) (hx : 0 ≤ x.toInt ∧ x.toInt ≤ 2 ^ 60) : 0 ≤ (yearL τ a m x).toInt ∧ (yearL τ a m x).toInt ≤ 7200000000000 := by
  unfold yearL lastO
  cases e : lstN (hasB τ 3 a) (m + 1) with
  | none =>
    show 0 ≤ (0 : Int64).toInt ∧ (0 : Int64).toInt ≤ 7200000000000
    decide
  | some k =>
    have hk := (lst_lt e).1
    have h4 := (hw.bn (a + k) (by omega)).2
    have t := yrS_bd hw (i := a + k) (by omega) hx _ (Nat.le_refl _)
    show 0 ≤ (yrS τ (a + k) x (un τ 33 (a + k))).toInt ∧ (yrS τ (a + k) x (un τ 33 (a + k))).toInt ≤ 7200000000000
    omega
theorem pz_bd {a : Int64} {A : Nat} (h : bdL a A) : 0 ≤ (pzL a).toInt ∧ (pzL a).toInt ≤ (A : Int) := by
  unfold pzL
  split
  · rename_i q
    rw [Int64.lt_iff_toInt_lt, show (lN 0).toInt = 0 from rfl] at q
    exact ⟨by omega, h.2⟩
  · rw [show (lN 0).toInt = 0 from rfl]; omega
theorem duL_bd {τ : Mu} (hw : WF τ) {p m q : Nat} (hp : p < 6) (hm : m < 24) (hq : q < 3) : bdL (duL τ p m q) 86400000000000 := by
  have a := bd_add (txY_bd hw hp hq (y := m / 12) (by omega) (j := m % 12) (by omega)) (txL_bd hw hp hq hm) (by decide)
  have z := pz_bd a
  have z2 : bdL (pzL (txY τ p q (m / 12) (m % 12) + txL τ p m q)) 143000000000000 := ⟨by omega, by omega⟩
  have m1 := bd_mulI z2 (k := 12) (by decide) (by decide)
  have x := div_bd (x := pzL (txY τ p q (m / 12) (m % 12) + txL τ p m q) * lN 12) (A := 1716000000000000) (b := m % 12 + 1) ⟨by rw [m1]; omega, by rw [m1]; omega⟩ (by omega) (by omega)
  have s2 := stN_le hw hp hm
  have y := yearL_bd hw (a := 48 * q + 24 * stN τ p m) (m := m) (x := pzL (txY τ p q (m / 12) (m % 12) + txL τ p m q) * lN 12 / lN (m % 12 + 1)) (by omega) ⟨x.1, by have := x.2; omega⟩
  have yb : bdL (yearL τ (48 * q + 24 * stN τ p m) m (pzL (txY τ p q (m / 12) (m % 12) + txL τ p m q) * lN 12 / lN (m % 12 + 1))) 7200000000000 := ⟨by omega, by omega⟩
  have hk : 7200000000000 * (m % 12 + 1) ≤ 7200000000000 * 12 := Nat.mul_le_mul_left _ (by omega)
  have m2 := bd_mulI yb (k := m % 12 + 1) (by omega) (by omega)
  have m3 := bd_mul yb (k := m % 12 + 1) (by omega) (by omega)
  have w := div_bd (x := yearL τ (48 * q + 24 * stN τ p m) m (pzL (txY τ p q (m / 12) (m % 12) + txL τ p m q) * lN 12 / lN (m % 12 + 1)) * lN (m % 12 + 1)) (A := 86400000000000) (b := 12) ⟨by rw [m2]; exact Int.mul_nonneg y.1 (by omega), by have := m3.2; omega⟩ (by decide) (by decide)
  exact ⟨by unfold duL dueM; omega, by unfold duL dueM; omega⟩
theorem taL_bd {τ : Mu} (hw : WF τ) {p m q : Nat} (hp : p < 6) (hm : m < 24) (hq : q < 3) : bdL (taL τ p m q) 200000000000000 := by
  unfold taL
  refine bd_mono (bd_sub (B := 86400000000000) (duL_bd hw hp hm hq) ?_ (by decide)) (by decide)
  split
  · exact bd_0
  · exact duL_bd hw hp (by omega) hq
theorem ntK_bd {τ : Mu} (hw : WF τ) {p m : Nat} (hp : p < 6) (hm : m < 24) : ∀ q, q ≤ 3 → bdL (ntK τ p m q) (30000000000000 + q * 300000000000000)
  | 0, _ => bd_mono (bd_sub (allL_bd hw hp hm) (pnL_bd hw hp hm) (by decide)) (by decide)
  | q + 1, hq => by
    have ih := ntK_bd hw hp hm q (by omega)
    have c := bd_add (coL_bd hw hp (show q < 3 by omega) hm) (taL_bd hw hp hm (show q < 3 by omega)) (by decide)
    exact bd_mono (bd_sub ih c (by omega)) (by omega)
theorem ntL_bd {τ : Mu} (hw : WF τ) {p m : Nat} (hp : p < 6) (hm : m < 24) : bdL (ntL τ p m) 1000000000000000 := bd_mono (ntK_bd hw hp hm 3 (Nat.le_refl _)) (by decide)
/-! VIEW: months ahead of one -/
def VN (N r : Nat) (τ U : Mu) : Prop := (∀ k, k < 30 → U.1 k = τ.1 k) ∧ (∀ k, 31 ≤ k → k < 36 → U.1 k = τ.1 k) ∧ (∀ k, 38 ≤ k → k < 45 → U.1 k = τ.1 k) ∧ (∀ m q, m < N → q < 3 → U.1 30 (72 * r + 3 * m + q) = τ.1 30 (72 * r + 3 * m + q)) ∧ (∀ m, m < N → U.1 36 (24 * r + m) = τ.1 36 (24 * r + m)) ∧ (∀ m, m < N → U.1 37 (24 * r + m) = τ.1 37 (24 * r + m)) ∧ ∀ m, m < N → U.2 45 (24 * r + m) = τ.2 45 (24 * r + m)
section VNs
variable {N r : Nat} {τ U : Mu}
theorem VN.l0 (v : VN N r τ U) (a m : Nat) : lastO U 0 a m = lastO τ 0 a m := lst_cg fun k _ => by
  show decide (0 ≤ U.1 31 (a + k)) = decide (0 ≤ τ.1 31 (a + k))
  rw [v.2.1 31 (by decide) (by decide)]
theorem VN.l3 (v : VN N r τ U) (a m : Nat) : lastO U 3 a m = lastO τ 3 a m := lst_cg fun k _ => by
  show decide (un U 33 (a + k) ≠ 0) = decide (un τ 33 (a + k) ≠ 0)
  rw [un_e (v.2.1 33 (by decide) (by decide))]
theorem VN.ce (v : VN N r τ U) (q m : Nat) : ceilN U q m = ceilN τ q m := by
  unfold ceilN
  rw [v.l0, un_e (v.2.1 32 (by decide) (by decide))]
theorem VN.cr (v : VN N r τ U) (q m : Nat) : crN U q m = crN τ q m := by
  unfold crN
  rw [v.l0, un_e (v.2.1 31 (by decide) (by decide))]
theorem VN.st (v : VN N r τ U) {m : Nat} (hm : m < N) : stN U r m = stN τ r m := by
  unfold stN
  rw [show lastO U 1 (24 * r) m = lastO τ 1 (24 * r) m from lst_cg fun k hk => by
    show decide (0 ≤ U.1 36 (24 * r + k)) = decide (0 ≤ τ.1 36 (24 * r + k))
    rw [v.2.2.2.2.1 k (by omega)]]
  cases e : lastO τ 1 (24 * r) m with
  | none => rfl
  | some k => exact un_cg (v.2.2.2.2.1 k (by have := (lst_lt e).1; omega))
theorem VN.pt (v : VN N r τ U) {m : Nat} (hm : m < N) : ptN U r m = ptN τ r m := by
  unfold ptN
  rw [show lastO U 2 (24 * r) m = lastO τ 2 (24 * r) m from lst_cg fun k hk => by
    show decide (0 ≤ U.1 37 (24 * r + k)) = decide (0 ≤ τ.1 37 (24 * r + k))
    rw [v.2.2.2.2.2.1 k (by omega)]]
  cases e : lastO τ 2 (24 * r) m with
  | none => rfl
  | some k => exact un_cg (v.2.2.2.2.2.1 k (by have := (lst_lt e).1; omega))
theorem VN.gr (v : VN N r τ U) {m q : Nat} (hm : m < N) (hq : q < 3) : grL U r m q = grL τ r m q := u_gr v.1 (v.2.2.2.1 m q hm hq)
theorem VN.al (v : VN N r τ U) {m : Nat} (hm : m < N) : allL U r m = allL τ r m := by
  unfold allL
  rw [v.gr hm (by decide), v.gr hm (by decide), v.gr hm (by decide)]
theorem VN.pn (v : VN N r τ U) {m : Nat} (hm : m < N) : pnL U r m = pnL τ r m := by
  unfold pnL
  rw [v.al hm, v.pt hm]
theorem VN.mt (v : VN N r τ U) {m : Nat} (hm : m < N) : mtL U r m = mtL τ r m := by
  unfold mtL
  rw [v.al hm, v.pt hm]
theorem VN.gy (v : VN N r τ U) {q y : Nat} (hq : q < 3) {j : Nat} (hj : y * 12 + j ≤ N) : gY U r q y j = gY τ r q y j := sumL_cg fun i hi => v.gr (by omega) hq
theorem VN.ys (v : VN N r τ U) {i : Nat} {x : Int64} : ∀ b, yrS U i x b = yrS τ i x b
  | 0 => rfl
  | b + 1 => by
    have e : yrLow U i b = yrLow τ i b := by
      cases b with
      | zero => rfl
      | succ b => exact congrFun (un_e (v.2.1 34 (by decide) (by decide))) _
    show yrS U i x b + yrT U i b x = yrS τ i x b + yrT τ i b x
    unfold yrT yrP
    rw [v.ys b, e, un_e (v.2.1 34 (by decide) (by decide)), un_e (v.2.1 35 (by decide) (by decide))]
theorem VN.ye (v : VN N r τ U) (a m : Nat) (x : Int64) : yearL U a m x = yearL τ a m x := by
  unfold yearL
  rw [v.l3]
  cases lastO τ 3 a m with
  | none => rfl
  | some k =>
    show yrS U (a + k) x (un U 33 (a + k)) = yrS τ (a + k) x (un τ 33 (a + k))
    rw [v.ys, un_e (v.2.1 33 (by decide) (by decide))]
theorem VN.cm (v : VN N r τ U) (q m : Nat) (a b : Int64) : ctM U q m a b = ctM τ q m a b := by
  unfold ctM
  rw [v.ce]
theorem VN.cy (v : VN N r τ U) {q y : Nat} (hq : q < 3) : ∀ j, y * 12 + j ≤ N → ctY U r q y j = ctY τ r q y j
  | 0, _ => rfl
  | j + 1, hj => by
    show ctY U r q y j + ctM U q (y * 12 + j) (gY U r q y j + grL U r (y * 12 + j) q) (ctY U r q y j) = ctY τ r q y j + ctM τ q (y * 12 + j) (gY τ r q y j + grL τ r (y * 12 + j) q) (ctY τ r q y j)
    rw [v.cy hq j (by omega), v.cm, v.gy hq (by omega), v.gr (by omega) hq]
theorem VN.cl (v : VN N r τ U) {m q : Nat} (hm : m < N) (hq : q < 3) : ctL U r m q = ctL τ r m q := by
  unfold ctL
  rw [v.cm, v.gy hq (by omega), v.gr hm hq, v.cy hq _ (by omega)]
theorem VN.co (v : VN N r τ U) {m q : Nat} (hm : m < N) (hq : q < 3) : coL U r m q = coL τ r m q := by
  unfold coL
  rw [v.cl hm hq, v.cr]
theorem VN.tx (v : VN N r τ U) {m q : Nat} (hm : m < N) (hq : q < 3) : txL U r m q = txL τ r m q := by
  unfold txL
  rw [v.gr hm hq, v.co hm hq, u_ho v.1, v.pn hm]
theorem VN.ty (v : VN N r τ U) {q y : Nat} (hq : q < 3) {j : Nat} (hj : y * 12 + j ≤ N) : txY U r q y j = txY τ r q y j := sumL_cg fun i hi => v.tx (by omega) hq
theorem VN.du (v : VN N r τ U) {m q : Nat} (hm : m < N) (hq : q < 3) : duL U r m q = duL τ r m q := by
  unfold duL dueM
  rw [v.ye, v.st hm, v.ty hq (by omega), v.tx hm hq]
theorem VN.ta (v : VN N r τ U) {m q : Nat} (hm : m < N) (hq : q < 3) : taL U r m q = taL τ r m q := by
  unfold taL
  rw [v.du hm hq, v.du (show m - 1 < N by omega) hq]
theorem VN.nk (v : VN N r τ U) {m : Nat} (hm : m < N) : ∀ q, q ≤ 3 → ntK U r m q = ntK τ r m q
  | 0, _ => by
    show allL U r m - pnL U r m = allL τ r m - pnL τ r m
    rw [v.al hm, v.pn hm]
  | q + 1, hq => by
    show ntK U r m q - (coL U r m q + taL U r m q) = ntK τ r m q - (coL τ r m q + taL τ r m q)
    rw [v.nk hm q (by omega), v.co hm (by omega), v.ta hm (by omega)]
theorem VN.nt (v : VN N r τ U) {m : Nat} (hm : m < N) : ntL U r m = ntL τ r m := v.nk hm 3 (by decide)
end VNs
