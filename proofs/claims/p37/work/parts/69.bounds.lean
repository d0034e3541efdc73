/-! BOUNDS of what slips come to -/
def bdL (x : Int64) (B : Nat) : Prop := -(B : Int) ≤ x.toInt ∧ x.toInt ≤ (B : Int)
theorem bd_mono {x : Int64} {A B : Nat} (h : bdL x A) (hl : A ≤ B) : bdL x B := ⟨by have := h.1; omega, by have := h.2; omega⟩
theorem bd_addI {x y : Int64} {A B : Nat} (h : bdL x A) (g : bdL y B) (hb : A + B < 2 ^ 62) : (x + y).toInt = x.toInt + y.toInt := by
  obtain ⟨h1, h2⟩ := h
  obtain ⟨g1, g2⟩ := g
  rw [Int64.toInt_add, Int.bmod_eq_of_le (by omega) (by omega)]
theorem bd_add {x y : Int64} {A B : Nat} (h : bdL x A) (g : bdL y B) (hb : A + B < 2 ^ 62) : bdL (x + y) (A + B) := by
  have e := bd_addI h g hb
  obtain ⟨h1, h2⟩ := h
  obtain ⟨g1, g2⟩ := g
  unfold bdL
  rw [e]
  omega
theorem bd_subI {x y : Int64} {A B : Nat} (h : bdL x A) (g : bdL y B) (hb : A + B < 2 ^ 62) : (x - y).toInt = x.toInt - y.toInt := by
  obtain ⟨h1, h2⟩ := h
  obtain ⟨g1, g2⟩ := g
  rw [Int64.toInt_sub, Int.bmod_eq_of_le (by omega) (by omega)]
theorem bd_sub {x y : Int64} {A B : Nat} (h : bdL x A) (g : bdL y B) (hb : A + B < 2 ^ 62) : bdL (x - y) (A + B) := by
  have e := bd_subI h g hb
  obtain ⟨h1, h2⟩ := h
  obtain ⟨g1, g2⟩ := g
  unfold bdL
  rw [e]
  omega
theorem bd_lN {n B : Nat} (h : n ≤ B) (hb : B < 2 ^ 62) : bdL (lN n) B := by
  unfold bdL
  rw [pk_lT (by omega)]
  omega
theorem bd_0 {B : Nat} : bdL 0 B := by unfold bdL; rw [show (0 : Int64).toInt = 0 from rfl]; omega
theorem bd_mulI {x : Int64} {A k : Nat} (h : bdL x A) (hb : A * k < 2 ^ 62) (hk : k < 2 ^ 62) : (x * lN k).toInt = x.toInt * k := by
  obtain ⟨h1, h2⟩ := h
  have e := pk_lT (n := k) (by omega)
  have b1 : x.toInt * k ≤ (A : Int) * k := Int.mul_le_mul_of_nonneg_right h2 (by omega)
  have b2 : -((A : Int) * k) ≤ x.toInt * k := by
    have := Int.mul_le_mul_of_nonneg_right h1 (show (0 : Int) ≤ k by omega)
    rw [Int.neg_mul] at this
    exact this
  have b3 : (A : Int) * k < 2 ^ 62 := by exact_mod_cast hb
  rw [Int64.toInt_mul, e, Int.bmod_eq_of_le (by omega) (by omega)]
theorem bd_mul {x : Int64} {A k : Nat} (h : bdL x A) (hb : A * k < 2 ^ 62) (hk : k < 2 ^ 62) : bdL (x * lN k) (A * k) := by
  have e := bd_mulI h hb hk
  obtain ⟨h1, h2⟩ := h
  have b1 : x.toInt * k ≤ (A : Int) * k := Int.mul_le_mul_of_nonneg_right h2 (by omega)
  have b2 : -((A : Int) * k) ≤ x.toInt * k := by
    have := Int.mul_le_mul_of_nonneg_right h1 (show (0 : Int) ≤ k by omega)
    rw [Int.neg_mul] at this
    exact this
  unfold bdL
  rw [e]
  push_cast
  exact ⟨b2, b1⟩
theorem bd_sum {f : Nat → Int64} {B : Nat} : ∀ {n : Nat}, (∀ i, i < n → bdL (f i) B) → n * B < 2 ^ 62 → bdL (sumL f n) (n * B)
  | 0, _, _ => bd_0
  | n + 1, h, hb => by
    have e : (n + 1) * B = n * B + B := Nat.succ_mul n B
    rw [e]
    rw [e] at hb
    exact bd_add (bd_sum (fun i hi => h i (by omega)) (by omega)) (h n (by omega)) hb
theorem keptL_bd (v : Int64) : bdL (keptL v) 100000000 := by
  unfold keptL bdL
  have e1 : (lN 100000000).toInt = 100000000 := pk_lT (by decide)
  have e2 : (-100000000 : Int64).toInt = -100000000 := by decide
  split
  · rw [e1]; omega
  · rename_i h1
    split
    · rw [e2]; omega
    · rename_i h2
      rw [Int64.lt_iff_toInt_lt] at h1 h2
      omega
theorem fmP_bd {τ : Mu} {cm : Nat → Int64} {b h : Int64} {e : Nat} : ∀ k i, bdL (fmP τ cm b h e k i) 100000000
  | 0, _ => bd_0
  | k + 1, i => by
    show bdL ((if un τ 22 (10 * e + k) < 4 then vp_updL (fmP τ cm b h e k) (fmD τ e k) (keptL (singL τ cm b h (10 * e + k))) else vp_updL (fmP τ cm b h e k) (fmD τ e k - 2) (keptL (joinL (un τ 22 (10 * e + k)) (fmP τ cm b h e k (fmD τ e k - 2)) (fmP τ cm b h e k (fmD τ e k - 1))))) i) 100000000
    split
    · by_cases z : i = fmD τ e k
      · rw [z, pk_uLs]; exact keptL_bd _
      · rw [pk_uLn z]; exact fmP_bd k i
    · by_cases z : i = fmD τ e k - 2
      · rw [z, pk_uLs]; exact keptL_bd _
      · rw [pk_uLn z]; exact fmP_bd k i
theorem cmL_bd {τ : Mu} {p m : Nat} : ∀ k e, bdL (cmL τ p m k e) 100000000
  | 0, _ => bd_0
  | k + 1, e => by
    show bdL (vp_updL (cmL τ p m k) (un τ 27 k) _ e) 100000000
    by_cases z : e = un τ 27 k
    · rw [z, pk_uLs]
      split
      · exact fmP_bd _ _
      · exact bd_0
    · rw [pk_uLn z]; exact cmL_bd k e
theorem gE_bd {τ : Mu} {p m : Nat} : ∀ k, k ≤ 6 → bdL (gE τ p m k) (k * 100000000)
  | 0, _ => bd_0
  | k + 1, hk => by
    show bdL (gE τ p m k + cmL τ p m (k + 1) (un τ 27 k)) _
    rw [Nat.succ_mul]
    exact bd_add (gE_bd k (by omega)) (cmL_bd _ _) (by omega)
theorem gbN_le {τ : Mu} (hw : WF τ) {p m i n : Nat} (hm : m < 24) (hn : n ≤ un τ 9 9) : gbN τ p m i n ≤ n * 500000000000 := sumN_le fun c hc => by
  show (if un τ 0 (0 + c) = p ∧ un τ 1 (0 + c) = i then baseN τ (ltN τ) (0 + c) m else 0) ≤ _
  split
  · exact baseN_le hw (by omega) hm
  · omega
theorem grL_bd {τ : Mu} (hw : WF τ) {p m i : Nat} (hp : p < 6) (hm : m < 24) (hi : i < 3) : bdL (grL τ p m i) 6000000000000 := by
  have h9 := hw.nc.2
  have h26 := hw.ne.2
  have h1 : bdL (boL τ p m i) 12000000 := by
    unfold boL bdL
    rw [Int32.toInt_toInt64]
    have := hw.bo (72 * p + 3 * m + i) (by omega)
    omega
  have h2 : bdL (lN (gbN τ p m i (un τ 9 9))) 5000000000000 := bd_lN (by have := gbN_le hw (p := p) (i := i) hm (Nat.le_refl _); omega) (by decide)
  have h3 : bdL (if i = homeN τ p m then gE τ p m (un τ 26 26) else 0) 600000000 := by
    split
    · exact bd_mono (gE_bd _ h26) (by omega)
    · exact bd_0
  exact bd_mono (bd_add (bd_add h1 h2 (by decide)) h3 (by decide)) (by decide)
theorem allL_bd {τ : Mu} (hw : WF τ) {p m : Nat} (hp : p < 6) (hm : m < 24) : bdL (allL τ p m) 18000000000000 := bd_add (bd_add (grL_bd hw hp hm (by decide)) (grL_bd hw hp hm (by decide)) (by decide)) (grL_bd hw hp hm (by decide)) (by decide)
theorem dwn_I {x : Int64} {b : Nat} (h0 : 0 < b) (hb : b < 2 ^ 62) : (dwnL x (lN b)).toInt = x.toInt / (b : Int) := by
  have hp := lN_pos (b := b) h0 (by omega)
  have e := pk_lT (n := b) (by omega)
  obtain ⟨h1, h2⟩ := div_facts (x := x) hp
  have hq : (x / lN b).toInt = x.toInt.tdiv (b : Int) := by
    have n := Int.natAbs_tdiv_le_natAbs x.toInt (b : Int)
    have hx1 := Int64.toInt_lt x
    have hx2 := Int64.le_toInt x
    have t := td_facts x.toInt (b : Int) (by omega)
    have tm := tm_facts x.toInt (b : Int)
    have mt := Int.mul_tdiv_add_tmod x.toInt (b : Int)
    rw [Int64.toInt_div, e]
    by_cases hx : 0 ≤ x.toInt
    · rw [Int.bmod_eq_of_le (by have := t.1 hx; omega) (by omega)]
    · rw [Int.bmod_eq_of_le (by omega) (by have := t.2 (by omega); omega)]
  have hc : x - x / lN b * lN b < 0 ↔ x.toInt.tmod (b : Int) < 0 := by rw [Int64.lt_iff_toInt_lt, h1, e, show (0 : Int64).toInt = 0 from rfl]
  unfold dwnL
  have mt := Int.mul_tdiv_add_tmod x.toInt (b : Int)
  have ab := Int.natAbs_tmod x.toInt (b : Int)
  have al : x.toInt.natAbs % (b : Int).natAbs < (b : Int).natAbs := Nat.mod_lt _ (by omega)
  have tm := tm_facts x.toInt (b : Int)
  have em := Int.emod_add_mul_ediv x.toInt (b : Int)
  have e0 := Int.emod_nonneg x.toInt (show (b : Int) ≠ 0 by omega)
  have e1 := Int.emod_lt_of_pos x.toInt (show (0 : Int) < b by omega)
  generalize hT : x.toInt.tmod (b : Int) = r at *
  generalize hQ : x.toInt.tdiv (b : Int) = q at *
  generalize hE : x.toInt % (b : Int) = r2 at *
  generalize hF : x.toInt / (b : Int) = q2 at *
  have key : ∀ u v : Int, (b : Int) * u + v = x.toInt → 0 ≤ v → v < b → u = q2 := by
    intro u v g1 g2 g3
    have d : (b : Int) * (u - q2) = r2 - v := by rw [Int.mul_sub]; omega
    have z1 : u - q2 < 1 := by
      apply Classical.byContradiction
      intro z
      have : (b : Int) * 1 ≤ (b : Int) * (u - q2) := Int.mul_le_mul_of_nonneg_left (by omega) (by omega)
      omega
    have z2 : -1 < u - q2 := by
      apply Classical.byContradiction
      intro z
      have : (b : Int) * (u - q2) ≤ (b : Int) * (-1) := Int.mul_le_mul_of_nonneg_left (by omega) (by omega)
      omega
    omega
  by_cases hr : r < 0
  · rw [if_pos (hc.mpr hr), Int64.toInt_sub, hq, show (1 : Int64).toInt = 1 from rfl]
    have hx1 := Int64.toInt_lt x
    have hx2 := Int64.le_toInt x
    have k := key (q - 1) (r + b) (by rw [Int.mul_sub]; omega) (by omega) (by omega)
    have n := Int.natAbs_tdiv_le_natAbs x.toInt (b : Int)
    rw [hQ] at n
    have t := td_facts x.toInt (b : Int) (by omega)
    rw [hQ] at t
    have hxn : x.toInt < 0 := by
      apply Classical.byContradiction
      intro z
      have := (tm.1 (by omega)).1
      omega
    have hq1 : -(2 ^ 63 : Int) < q := by
      have m1 : (b : Int) * q = x.toInt - r := by omega
      have m2 := (tm.2 hxn)
      apply Classical.byContradiction
      intro z
      have : (b : Int) * q ≤ 1 * q := Int.mul_le_mul_of_nonpos_right (by omega) (by omega)
      omega
    rw [Int.bmod_eq_of_le (by omega) (by have := t.2 hxn; omega)]
    exact k
  · rw [if_neg (fun z => hr (hc.mp z)), hq]
    exact key q r (by omega) (by omega) (by omega)
theorem rnd_I {x : Int64} {A b : Nat} (h : bdL x A) (h0 : 0 < b) (hb : 2 * A + b < 2 ^ 61) : (rndL x (lN b)).toInt = (2 * x.toInt + b) / (2 * b : Int) := by
  unfold rndL
  have e2 : (2 : Int64) * x = x * lN 2 := Int64.mul_comm _ _
  have h2 := bd_mul h (k := 2) (by omega) (by decide)
  have i2 := bd_mulI h (k := 2) (by omega) (by decide)
  have i3 := bd_addI h2 (bd_lN (Nat.le_refl b) (by omega)) (by omega)
  rw [e2, show (2 : Int64) * lN b = lN (2 * b) from lN_mul 2 b, dwn_I (by omega) (by omega), i3, i2, pk_lT (by omega)]
  push_cast
  rw [Int.mul_comm x.toInt 2]
theorem pn_max {a : Int64} {A k : Nat} (h : bdL a A) (hA : A ≤ 18000000000000) (hk : k ≤ 200) : lmax (lN 0) (rndL (a * lN k) (lN 1000)) = if a < lN 0 then lN 0 else rndL (a * lN k) (lN 1000) := by
  have hb : A * k ≤ 18000000000000 * 200 := Nat.mul_le_mul hA hk
  have i1 := bd_mulI h (k := k) (by omega) (by omega)
  have i2 := rnd_I (bd_mul h (k := k) (by omega) (by omega)) (b := 1000) (by decide) (by omega)
  rw [i1] at i2
  rw [lmax_c]
  by_cases hn : a < lN 0
  · rw [if_pos hn]
    have h0 : a.toInt < 0 := by rw [Int64.lt_iff_toInt_lt] at hn; exact hn
    have hm : a.toInt * k ≤ 0 := Int.mul_nonpos_of_nonpos_of_nonneg (by omega) (by omega)
    generalize a.toInt * k = z at *
    by_cases q : rndL (a * lN k) (lN 1000) < lN 0
    · rw [if_pos q]
    · rw [if_neg q, ← Int64.toInt_inj, i2, show (lN 0).toInt = 0 from rfl]
      rw [Int64.lt_iff_toInt_lt, i2, show (lN 0).toInt = 0 from rfl] at q
      omega
  · rw [if_neg hn]
    have h0 : 0 ≤ a.toInt := by rw [Int64.lt_iff_toInt_lt, show (lN 0).toInt = 0 from rfl] at hn; omega
    have hm : 0 ≤ a.toInt * k := Int.mul_nonneg h0 (by omega)
    rw [if_neg]
    rw [Int64.lt_iff_toInt_lt, i2, show (lN 0).toInt = 0 from rfl]
    generalize a.toInt * k = z at *
    omega
theorem pn_bd {a : Int64} {A k : Nat} (h : bdL a A) (hA : A ≤ 18000000000000) (hk : k ≤ 200) : bdL (if a < lN 0 then lN 0 else rndL (a * lN k) (lN 1000)) 4000000000000 := by
  have hb : A * k ≤ 18000000000000 * 200 := Nat.mul_le_mul hA hk
  have i2 := rnd_I (bd_mul h (k := k) (by omega) (by omega)) (b := 1000) (by decide) (by omega)
  have hm := bd_mul h (k := k) (by omega) (by omega)
  split
  · exact bd_0
  · unfold bdL at hm ⊢
    rw [i2]
    generalize (a * lN k).toInt = z at *
    omega
theorem ctM_in {τ : Mu} (hw : WF τ) {pl m A : Nat} {a b : Int64} (hp : pl < 3) (hm : m < 24) (ha : bdL a A) (hA : A < 2 ^ 60) (hb : 0 ≤ b.toInt ∧ b.toInt ≤ 100000000) : 0 ≤ (ctM τ pl m a b).toInt ∧ (ctM τ pl m a b).toInt + b.toInt ≤ 100000000 := by
  have hc := ceilN_le hw hp hm
  have ec := pk_lT (n := ceilN τ pl m) (by omega)
  have hmn : bdL (mnL a (lN (ceilN τ pl m))) (2 ^ 60) ∧ (mnL a (lN (ceilN τ pl m))).toInt ≤ 100000000 := by
    unfold mnL
    split
    · rename_i q
      rw [Int64.lt_iff_toInt_lt, ec] at q
      exact ⟨bd_mono ha (by omega), by omega⟩
    · exact ⟨bd_mono (bd_lN (Nat.le_refl _) (by omega)) (by omega), by rw [ec]; omega⟩
  have hbb : bdL b 100000000 := ⟨by omega, hb.2⟩
  have e := bd_subI hmn.1 hbb (by decide)
  unfold ctM pzL
  split
  · rename_i q
    rw [Int64.lt_iff_toInt_lt, show (lN 0).toInt = 0 from rfl] at q
    omega
  · rw [show (lN 0).toInt = 0 from rfl]; omega
theorem gY_bd {τ : Mu} (hw : WF τ) {p q y j : Nat} (hp : p < 6) (hq : q < 3) (hy : y < 2) (hj : j ≤ 12) : bdL (gY τ p q y j) 72000000000000 := bd_mono (bd_sum (B := 6000000000000) (fun i hi => grL_bd hw hp (by omega) hq) (by omega)) (by omega)
theorem ctY_in {τ : Mu} (hw : WF τ) {p q y : Nat} (hp : p < 6) (hq : q < 3) (hy : y < 2) : ∀ {j : Nat}, j ≤ 12 → 0 ≤ (ctY τ p q y j).toInt ∧ (ctY τ p q y j).toInt ≤ 100000000
  | 0, _ => by rw [show (ctY τ p q y 0).toInt = 0 from rfl]; omega
  | j + 1, hj => by
    have ih := ctY_in hw hp hq hy (j := j) (by omega)
    have k := ctM_in hw (m := y * 12 + j) hq (by omega) (bd_add (gY_bd hw hp hq hy (j := j) (by omega)) (grL_bd hw hp (m := y * 12 + j) (by omega) hq) (by decide)) (by decide) ih
    show 0 ≤ (ctY τ p q y j + ctM τ q (y * 12 + j) (gY τ p q y j + grL τ p (y * 12 + j) q) (ctY τ p q y j)).toInt ∧ _
    have e := bd_addI (x := ctY τ p q y j) (y := ctM τ q (y * 12 + j) (gY τ p q y j + grL τ p (y * 12 + j) q) (ctY τ p q y j)) (A := 100000000) (B := 100000000) ⟨by omega, by omega⟩ ⟨by omega, by omega⟩ (by decide)
    show 0 ≤ (ctY τ p q y j + ctM τ q (y * 12 + j) (gY τ p q y j + grL τ p (y * 12 + j) q) (ctY τ p q y j)).toInt ∧ (ctY τ p q y j + ctM τ q (y * 12 + j) (gY τ p q y j + grL τ p (y * 12 + j) q) (ctY τ p q y j)).toInt ≤ 100000000
    rw [e]
    omega
theorem coL_bd {τ : Mu} (hw : WF τ) {p m q : Nat} (hp : p < 6) (hq : q < 3) (hm : m < 24) : bdL (coL τ p m q) 100000000 := by
  have ih := ctY_in hw hp hq (y := m / 12) (by omega) (j := m % 12) (by omega)
  have k := ctM_in hw (m := m) hq hm (bd_add (gY_bd hw hp hq (y := m / 12) (by omega) (j := m % 12) (by omega)) (grL_bd hw hp hm hq) (by decide)) (by decide) ih
  have hcr := crN_le hw hq hm
  have hct : bdL (ctL τ p m q) 100000000 := ⟨by unfold ctL; omega, by unfold ctL; omega⟩
  have hb : 100000000 * crN τ q m ≤ 100000000 * 500 := Nat.mul_le_mul_left _ hcr
  have hm2 := bd_mul hct (k := crN τ q m) (by omega) (by omega)
  have i2 := rnd_I hm2 (b := 1000) (by decide) (by omega)
  unfold coL bdL
  unfold bdL at hm2
  rw [i2]
  generalize (ctL τ p m q * lN (crN τ q m)).toInt = z at *
  omega
theorem pnL_bd {τ : Mu} (hw : WF τ) {p m : Nat} (hp : p < 6) (hm : m < 24) : bdL (pnL τ p m) 4000000000000 := pn_bd (allL_bd hw hp hm) (Nat.le_refl _) (ptN_le hw hp hm)
theorem txL_bd {τ : Mu} (hw : WF τ) {p m q : Nat} (hp : p < 6) (hq : q < 3) (hm : m < 24) : bdL (txL τ p m q) 11000000000000 := by
  have h1 := grL_bd hw hp hm hq
  have h2 := coL_bd hw hp hq hm
  have h3 : bdL (if q = homeN τ p m then pnL τ p m else lN 0) 4000000000000 := by
    split
    · exact pnL_bd hw hp hm
    · exact bd_0
  exact bd_mono (bd_sub (bd_sub h1 h2 (by decide)) h3 (by decide)) (by decide)
theorem txY_bd {τ : Mu} (hw : WF τ) {p q y j : Nat} (hp : p < 6) (hq : q < 3) (hy : y < 2) (hj : j ≤ 12) : bdL (txY τ p q y j) 132000000000000 := bd_mono (bd_sum (B := 11000000000000) (fun i hi => txL_bd hw hp hq (by omega)) (by omega)) (by omega)
/-- rounding down of what isn't below 0 -/
theorem dwn_pz {a : Int64} {A g : Nat} (h : bdL a A) (hA : A < 2 ^ 58) (h0 : 0 < g) (hg : g < 2 ^ 30) : dwnL (pzL a * lN 12) (lN g) = pzL a * lN 12 / lN g := by
  have hz : bdL (pzL a) A ∧ 0 ≤ (pzL a).toInt := by
    unfold pzL
    split
    · rename_i q
      rw [Int64.lt_iff_toInt_lt, show (lN 0).toInt = 0 from rfl] at q
      exact ⟨h, by omega⟩
    · exact ⟨bd_0, by rw [show (lN 0).toInt = 0 from rfl]; omega⟩
  have i1 := bd_mulI hz.1 (k := 12) (by omega) (by decide)
  have hp := lN_pos (b := g) h0 (by omega)
  obtain ⟨h1, -⟩ := div_facts (x := pzL a * lN 12) hp
  unfold dwnL
  rw [if_neg]
  rw [Int64.lt_iff_toInt_lt, h1, show (0 : Int64).toInt = 0 from rfl]
  have := (tm_facts (pzL a * lN 12).toInt (lN g).toInt).1 (by rw [i1]; omega)
  omega
theorem lmax_pz (v : Int64) : lmax (lN 0) v = pzL v := by
  rw [lmax_c]
  unfold pzL
  by_cases h : v < lN 0
  · rw [if_pos h, if_neg (by rw [Int64.lt_iff_toInt_lt] at *; omega)]
  · rw [if_neg h]
    by_cases h2 : lN 0 < v
    · rw [if_pos h2]
    · rw [if_neg h2, ← Int64.toInt_inj]; rw [Int64.lt_iff_toInt_lt] at h h2; omega
theorem lmin_mn (a b : Int64) : lmin a b = mnL a b := lmin_c a b
theorem mnL_comm (a b : Int64) : mnL a b = mnL b a := by
  unfold mnL
  by_cases h : a < b
  · rw [if_pos h, if_neg (by rw [Int64.lt_iff_toInt_lt] at *; omega)]
  · rw [if_neg h]
    by_cases h2 : b < a
    · rw [if_pos h2]
    · rw [if_neg h2, ← Int64.toInt_inj]; rw [Int64.lt_iff_toInt_lt] at h h2; omega

