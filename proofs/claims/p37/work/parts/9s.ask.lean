/-! WHAT ASKS ASKS, of what was told -/
theorem z0I : (lN 0).toInt = 0 := rfl
theorem lt0I {x : Int64} : x < lN 0 ↔ x.toInt < 0 := by rw [Int64.lt_iff_toInt_lt, z0I]
theorem slL2 {τ : Mu} {p m : Nat} : slL τ p m 2 = pnL τ p m := if_pos rfl
theorem slL4 {τ : Mu} {p m : Nat} : slL τ p m 4 = ntL τ p m := (if_neg (by decide)).trans (if_pos rfl)
theorem slL5 {τ : Mu} {p m : Nat} : slL τ p m 5 = ntL τ p m - lvL τ p m := (if_neg (by decide)).trans ((if_neg (by decide)).trans (if_pos rfl))
theorem slL6 {τ : Mu} {p m : Nat} : slL τ p m 6 = pyL τ p m := (if_neg (by decide)).trans ((if_neg (by decide)).trans ((if_neg (by decide)).trans (if_pos rfl)))
theorem slL7 {τ : Mu} {p m : Nat} : slL τ p m 7 = mtL τ p m := (if_neg (by decide)).trans ((if_neg (by decide)).trans ((if_neg (by decide)).trans ((if_neg (by decide)).trans (if_pos rfl))))
theorem slLx {τ : Mu} {p m w : Nat} (h : w = 0 ∨ w = 1 ∨ w = 3) : slL τ p m w = sumS τ p m w := (if_neg (by omega)).trans ((if_neg (by omega)).trans ((if_neg (by omega)).trans ((if_neg (by omega)).trans (if_neg (by omega)))))
theorem sumL3 (f : Nat → Int64) : sumL f 3 = f 0 + f 1 + f 2 := by
  show 0 + f 0 + f 1 + f 2 = _
  rw [Int64.zero_add]
theorem sum_in (τ : Mu) (p m : Nat) {w : Nat} (h : w = 0 ∨ w = 1 ∨ w = 3) : inL τ p m 0 w + inL τ p m 1 w + inL τ p m 2 w = slL τ p m w := by
  rw [slLx h]
  unfold sumS
  rw [sumL3]
theorem inL0 {τ : Mu} {p m q : Nat} : inL τ p m q 0 = grL τ p m q := if_pos rfl
theorem inL1 {τ : Mu} {p m q : Nat} : inL τ p m q 1 = coL τ p m q := (if_neg (by decide)).trans (if_pos rfl)
theorem inL3 {τ : Mu} {p m q : Nat} : inL τ p m q 3 = taL τ p m q := (if_neg (by decide)).trans (if_neg (by decide))
theorem ntL3 {τ : Mu} {p m : Nat} : ntL τ p m = allL τ p m - pnL τ p m - (coL τ p m 0 + taL τ p m 0) - (coL τ p m 1 + taL τ p m 1) - (coL τ p m 2 + taL τ p m 2) := rfl
theorem net_eq (τ : Mu) (p m : Nat) : slL τ p m 4 = slL τ p m 0 - slL τ p m 1 - slL τ p m 3 - slL τ p m 2 := by
  rw [slL4, slL2, ← sum_in τ p m (.inl rfl), ← sum_in τ p m (.inr (.inl rfl)), ← sum_in τ p m (.inr (.inr rfl)), inL0, inL0, inL0, inL1, inL1, inL1, inL3, inL3, inL3, ntL3, show grL τ p m 0 + grL τ p m 1 + grL τ p m 2 = allL τ p m from rfl]
  generalize allL τ p m = a
  generalize pnL τ p m = b
  generalize coL τ p m 0 = c0
  generalize coL τ p m 1 = c1
  generalize coL τ p m 2 = c2
  generalize taL τ p m 0 = t0
  generalize taL τ p m 1 = t1
  generalize taL τ p m 2 = t2
  simp only [Int64.sub_eq_add_neg, Int64.neg_add]
  ac_rfl
theorem coL_nn {τ : Mu} (hw : WF τ) {p m q : Nat} (hp : p < 6) (hq : q < 3) (hm : m < 24) : 0 ≤ (coL τ p m q).toInt ∧ (coL τ p m q).toInt ≤ 100000000 := by
  have ih := ctY_in hw hp hq (y := m / 12) (by omega) (j := m % 12) (by omega)
  have k := ctM_in hw (m := m) hq hm (bd_add (gY_bd hw hp hq (y := m / 12) (by omega) (j := m % 12) (by omega)) (grL_bd hw hp hm hq) (by decide)) (by decide) ih
  have hcr := crN_le hw hq hm
  have hct : bdL (ctL τ p m q) 100000000 := ⟨by unfold ctL; omega, by unfold ctL; omega⟩
  have hb : 100000000 * crN τ q m ≤ 100000000 * 500 := Nat.mul_le_mul_left _ hcr
  have i2 := rnd_I (bd_mul hct (k := crN τ q m) (by omega) (by omega)) (b := 1000) (by decide) (by omega)
  have i1 := bd_mulI hct (k := crN τ q m) (by omega) (by omega)
  have b2 := coL_bd hw hp hq hm
  refine ⟨?_, b2.2⟩
  unfold coL
  rw [i2, i1]
  have h0 : 0 ≤ (ctL τ p m q).toInt * (crN τ q m : Int) := Int.mul_nonneg (by unfold ctL; omega) (by omega)
  generalize (ctL τ p m q).toInt * (crN τ q m : Int) = z at *
  omega
theorem dues_nn {τ : Mu} (hw : WF τ) {p m : Nat} (hp : p < 6) (hm : m < 24) : (slL τ p m 1).toInt = (coL τ p m 0).toInt + (coL τ p m 1).toInt + (coL τ p m 2).toInt := by
  have h0 := coL_nn hw hp (q := 0) (by decide) hm
  have h1 := coL_nn hw hp (q := 1) (by decide) hm
  have h2 := coL_nn hw hp (q := 2) (by decide) hm
  rw [← sum_in τ p m (.inr (.inl rfl)), inL1, inL1, inL1]
  have b0 : bdL (coL τ p m 0) 100000000 := ⟨by omega, h0.2⟩
  have b1 : bdL (coL τ p m 1) 100000000 := ⟨by omega, h1.2⟩
  have b2 : bdL (coL τ p m 2) 100000000 := ⟨by omega, h2.2⟩
  rw [bd_addI (bd_add b0 b1 (by decide)) b2 (by decide), bd_addI b0 b1 (by decide)]
/-- a part of an amount that isn't below 0 -/
theorem rk_I {a : Int64} {k : Nat} (h : bdL a 18000000000000) (hk : k ≤ 200) : (rndL (a * lN k) (lN 1000)).toInt = (2 * (a.toInt * k) + 1000) / 2000 := by
  have hb : 18000000000000 * k ≤ 18000000000000 * 200 := Nat.mul_le_mul_left _ hk
  have i1 := bd_mulI h (k := k) (by omega) (by omega)
  have i2 := rnd_I (bd_mul h (k := k) (by omega) (by omega)) (b := 1000) (by decide) (by omega)
  rw [i2, i1]
  rfl
theorem pnL_nn {τ : Mu} (hw : WF τ) {p m : Nat} (hp : p < 6) (hm : m < 24) : 0 ≤ (pnL τ p m).toInt ∧ (mtL τ p m).toInt ≤ (pnL τ p m).toInt := by
  have ha := allL_bd hw hp hm
  have hk := ptN_le hw hp hm
  unfold pnL mtL
  by_cases c : allL τ p m < lN 0
  · rw [if_pos c, if_pos c]; exact ⟨by rw [z0I]; omega, Int.le_refl _⟩
  · rw [if_neg c, if_neg c]
    rw [lt0I] at c
    have k2 : (if ptN τ p m < 50 then ptN τ p m else 50) ≤ ptN τ p m := by split <;> omega
    rw [rk_I ha hk, rk_I ha (Nat.le_trans k2 hk)]
    have h1 : 0 ≤ (allL τ p m).toInt * ((if ptN τ p m < 50 then ptN τ p m else 50 : Nat) : Int) := Int.mul_nonneg (by omega) (by omega)
    have h2 : (allL τ p m).toInt * ((if ptN τ p m < 50 then ptN τ p m else 50 : Nat) : Int) ≤ (allL τ p m).toInt * (ptN τ p m : Int) := Int.mul_le_mul_of_nonneg_left (by omega) (by omega)
    generalize (allL τ p m).toInt * ((if ptN τ p m < 50 then ptN τ p m else 50 : Nat) : Int) = x at *
    generalize (allL τ p m).toInt * (ptN τ p m : Int) = y at *
    omega
/-- what a garnishment takes -/
theorem tk_I {τ : Mu} {nt h left : Int64} {g : Nat} (hl : bdL left 2000000000000000) (hk : un τ 43 g ≤ 100000000) : 0 ≤ (tkG τ nt h left g).toInt ∧ (0 < (tkG τ nt h left g).toInt → (tkG τ nt h left g).toInt ≤ left.toInt - un τ 43 g) := by
  have e := bd_subI hl (bd_lN hk (by decide)) (by decide)
  rw [pk_lT (by omega)] at e
  have pz : ∀ a : Int64, 0 ≤ (pzL a).toInt ∧ (0 < (pzL a).toInt → (pzL a).toInt = a.toInt) := fun a => by
    unfold pzL
    split
    · rename_i q
      rw [Int64.lt_iff_toInt_lt, z0I] at q
      exact ⟨by omega, fun _ => rfl⟩
    · exact ⟨by rw [z0I]; omega, fun h => by rw [z0I] at h; omega⟩
  have mn : ∀ a b : Int64, (mnL a b).toInt ≤ a.toInt := fun a b => by
    unfold mnL
    split
    · omega
    · rename_i q
      rw [Int64.lt_iff_toInt_lt] at q
      omega
  unfold tkG
  obtain ⟨p1, p2⟩ := pz (mnL (left - lN (un τ 43 g)) (mnL (dwnL (nt * lN (un τ 42 g)) (lN 1000)) (lN (un τ 41 g) - h)))
  have m1 := mn (left - lN (un τ 43 g)) (mnL (dwnL (nt * lN (un τ 42 g)) (lN 1000)) (lN (un τ 41 g) - h))
  exact ⟨p1, fun q => by rw [p2 q]; omega⟩
/-- what stands of a net behind garnishments -/
def LFI (nt l : Int64) : Prop := l.toInt ≤ nt.toInt ∧ (l = nt ∨ 0 ≤ l.toInt) ∧ bdL l 1000000000000000
theorem LFI.take {τ : Mu} {nt h l : Int64} {g : Nat} (hn : bdL nt 1000000000000000) (i : LFI nt l) (hk : un τ 43 g ≤ 100000000) : LFI nt (l - tkG τ nt h l g) ∧ 0 ≤ (tkG τ nt h l g).toInt ∧ (tkG τ nt h l g).toInt ≤ 1000000000000000 ∧ (l - tkG τ nt h l g).toInt = l.toInt - (tkG τ nt h l g).toInt := by
  obtain ⟨i1, i2, i3⟩ := i
  obtain ⟨t1, t2⟩ := tk_I (τ := τ) (nt := nt) (h := h) (g := g) (bd_mono i3 (by decide)) hk
  have h2 := hn.2
  have h3 := i3.1
  have h4 := i3.2
  have tb : (tkG τ nt h l g).toInt ≤ 1000000000000000 := by
    by_cases z : 0 < (tkG τ nt h l g).toInt
    · have := t2 z; omega
    · omega
  have e := bd_subI i3 (y := tkG τ nt h l g) (B := 1000000000000000) ⟨by omega, by omega⟩ (by decide)
  refine ⟨⟨by omega, ?_, ?_⟩, t1, tb, e⟩
  · by_cases z : 0 < (tkG τ nt h l g).toInt
    · exact .inr (by have := t2 z; omega)
    · have e0 : tkG τ nt h l g = 0 := by rw [← Int64.toInt_inj]; show _ = (0 : Int); omega
      rw [e0, Int64.sub_zero]
      exact i2
  · by_cases z : 0 < (tkG τ nt h l g).toInt
    · exact ⟨by have := t2 z; omega, by omega⟩
    · exact ⟨by omega, by omega⟩
theorem lfK_I {τ : Mu} (hw : WF τ) {p m : Nat} {nt : Int64} {had : Nat → Int64} {r : Nat} {l0 : Int64} (hn : bdL nt 1000000000000000) (i : LFI nt l0) : ∀ g, g ≤ un τ 44 44 → LFI nt (lfK τ p m nt had r l0 g)
  | 0, _ => i
  | g + 1, hg => by
    have ih := lfK_I hw hn i g (by omega) (p := p) (m := m) (had := had) (r := r)
    show LFI nt (if _ then _ else _)
    split
    · exact (ih.take hn (hw.gk g (by omega)).2).1
    · exact ih
theorem lfR_I {τ : Mu} (hw : WF τ) {p m : Nat} {nt : Int64} {had : Nat → Int64} (hn : bdL nt 1000000000000000) : ∀ r, LFI nt (lfR τ p m nt had r)
  | 0 => ⟨Int.le_refl _, .inl rfl, hn⟩
  | r + 1 => lfK_I hw hn (lfR_I hw hn r) _ (Nat.le_refl _)
theorem lvL_I {τ : Mu} (hw : WF τ) {p m : Nat} (hp : p < 6) (hm : m < 24) : LFI (ntL τ p m) (lvL τ p m) := lfR_I hw (ntL_bd hw hp hm) 10
theorem tk5_I {τ : Mu} (hw : WF τ) {p m : Nat} (hp : p < 6) (hm : m < 24) : (slL τ p m 5).toInt = (ntL τ p m).toInt - (lvL τ p m).toInt := by
  rw [slL5]
  exact bd_subI (ntL_bd hw hp hm) (lvL_I hw hp hm).2.2 (by decide)
theorem bk_I {τ : Mu} {p m : Nat} (h : AD τ p) (hm : m < 24) : 0 ≤ (bkL τ p m).toInt ∧ ((bkL τ p m).toInt = 0 ∨ (bkL τ p m).toInt ≤ (lvL τ p m).toInt) := by
  have ho := ow_nn h hm
  unfold bkL bkV
  split
  · exact ⟨by rw [z0I]; omega, .inl z0I⟩
  · rename_i c
    rw [Int64.le_iff_toInt_le, z0I] at c
    split
    · exact ⟨by omega, .inr (Int.le_refl _)⟩
    · rename_i c2
      rw [Int64.lt_iff_toInt_lt] at c2
      exact ⟨ho, .inr (by omega)⟩
theorem pyL_I {τ : Mu} (hw : WF τ) {p m : Nat} (hp : p < 6) (had : AD τ p) (hm : m < 24) : (pyL τ p m).toInt = (lvL τ p m).toInt - (bkL τ p m).toInt ∧ (pyL τ p m).toInt ≤ (lvL τ p m).toInt := by
  obtain ⟨b1, b2⟩ := bk_I had hm
  have hl := (lvL_I hw hp hm).2.2
  have hl1 := hl.1
  have hl2 := hl.2
  have e : (pyL τ p m).toInt = (lvL τ p m).toInt - (bkL τ p m).toInt := bd_subI hl (y := bkL τ p m) (B := 1000000000000000) ⟨by omega, by omega⟩ (by decide)
  exact ⟨e, by omega⟩
theorem ask_m {τ : Mu} (hw : WF τ) {p m : Nat} (hp : p < 6) (had : AD τ p) (hm : m < 24) : AskM τ p m := by
  obtain ⟨l1, l2, l3⟩ := lvL_I hw hp hm
  have t5 := tk5_I hw hp hm
  have dn := dues_nn hw hp hm
  have c0 := coL_nn hw hp (q := 0) (by decide) hm
  have c1 := coL_nn hw hp (q := 1) (by decide) hm
  have c2 := coL_nn hw hp (q := 2) (by decide) hm
  have pn := pnL_nn hw hp hm
  have py := pyL_I hw hp had hm
  have s4 := slL4 (τ := τ) (p := p) (m := m)
  have s2 := slL2 (τ := τ) (p := p) (m := m)
  have s6 := slL6 (τ := τ) (p := p) (m := m)
  have s7 := slL7 (τ := τ) (p := p) (m := m)
  have s45 : slL τ p m 4 - slL τ p m 5 = lvL τ p m := by
    rw [slL4, slL5]
    rw [Int64.sub_eq_add_neg, Int64.neg_sub, Int64.sub_eq_add_neg, Int64.add_comm (lvL τ p m), ← Int64.add_assoc, ← Int64.sub_eq_add_neg, Int64.sub_self, Int64.zero_add]
  refine ⟨net_eq τ p m, ?_, fun h5 => ?_, ?_, ?_, ?_, ?_⟩
  · rw [lt0I, t5]; omega
  · rw [Int64.le_iff_toInt_le, z0I, t5] at h5
    rw [Int64.lt_iff_toInt_lt, t5, s4]
    rcases l2 with h | h
    · rw [h] at h5; omega
    · omega
  · rw [s45, s6, Int64.lt_iff_toInt_lt]; omega
  · rw [lt0I, dn]; omega
  · rw [lt0I, s2]; omega
  · rw [Int64.le_iff_toInt_le, s7, s2]; exact pn.2
/-- brackets: nothing of nothing, more of more -/
theorem yrP_I {τ : Mu} (hw : WF τ) {i b : Nat} {x : Int64} (hi : i < 144) (hb : b < un τ 33 i) (hx : 0 ≤ x.toInt ∧ x.toInt ≤ 2 ^ 60) : (yrP τ i b x).toInt = min x.toInt (un τ 34 (4 * i + b)) - yrLow τ i b := by
  have e := (hw.be i b hi hb).2
  have lo : yrLow τ i b ≤ 1000000000 := by
    cases b with
    | zero => exact Nat.zero_le _
    | succ b => exact (hw.be i b hi (by omega)).2
  have p := pk_lT (n := un τ 34 (4 * i + b)) (by omega)
  have hm : (if x < lN (un τ 34 (4 * i + b)) then x else lN (un τ 34 (4 * i + b))).toInt = min x.toInt (un τ 34 (4 * i + b)) := by
    split
    · rename_i q
      rw [Int64.lt_iff_toInt_lt, p] at q
      omega
    · rename_i q
      rw [Int64.lt_iff_toInt_lt, p] at q
      rw [p]; omega
  unfold yrP
  rw [bd_subI (A := 2 ^ 60) (B := 1000000000) ⟨by omega, by omega⟩ (bd_lN lo (by decide)) (by decide), hm, pk_lT (by omega)]
theorem yrT_0 {τ : Mu} (hw : WF τ) {i b : Nat} (hi : i < 144) (hb : b < un τ 33 i) : yrT τ i b (lN 0) = lN 0 := by
  have h := yrP_I hw hi hb (x := lN 0) ⟨by rw [z0I]; omega, by rw [z0I]; omega⟩
  unfold yrT
  rw [if_neg]
  rw [Int64.lt_iff_toInt_lt, h, z0I]
  omega
theorem yrS_0 {τ : Mu} (hw : WF τ) {i : Nat} (hi : i < 144) : ∀ n, n ≤ un τ 33 i → yrS τ i (lN 0) n = 0
  | 0, _ => rfl
  | n + 1, hn => by
    show yrS τ i (lN 0) n + yrT τ i n (lN 0) = 0
    rw [yrS_0 hw hi n (by omega), yrT_0 hw hi (by omega)]
    rfl
theorem yearL_0 {τ : Mu} (hw : WF τ) {a m : Nat} (ha : a + m < 144) : yearL τ a m (lN 0) = lN 0 := by
  unfold yearL lastO
  cases e : lstN (hasB τ 3 a) (m + 1) with
  | none => rfl
  | some k => exact (yrS_0 hw (i := a + k) (by have := (lst_lt e).1; omega) _ (Nat.le_refl _)).trans rfl
theorem yrT_m {τ : Mu} (hw : WF τ) {i b : Nat} {x y : Int64} (hi : i < 144) (hb : b < un τ 33 i) (hx : 0 ≤ x.toInt ∧ x.toInt ≤ y.toInt) (hy : y.toInt ≤ 2 ^ 60) : (yrT τ i b x).toInt ≤ (yrT τ i b y).toInt := by
  have h1 := yrP_I hw hi hb (x := x) ⟨hx.1, by omega⟩
  have h2 := yrP_I hw hi hb (x := y) ⟨by omega, hy⟩
  have e := (hw.be i b hi hb).2
  have r := (hw.bt i b hi hb).2
  by_cases c : lN 0 < yrP τ i b x
  · rw [Int64.lt_iff_toInt_lt, z0I] at c
    have c2 : 0 < (yrP τ i b y).toInt := by omega
    have lo : (0 : Int) ≤ yrLow τ i b := by omega
    have hk : 1000000000 * un τ 35 (4 * i + b) ≤ 1000000000 * 900 := Nat.mul_le_mul_left _ r
    have bx : bdL (yrP τ i b x) 1000000000 := ⟨by omega, by omega⟩
    have b2 : bdL (yrP τ i b y) 1000000000 := ⟨by omega, by omega⟩
    have mx := bd_mulI bx (k := un τ 35 (4 * i + b)) (by omega) (by omega)
    have my := bd_mulI b2 (k := un τ 35 (4 * i + b)) (by omega) (by omega)
    have nx : 0 ≤ (yrP τ i b x).toInt * (un τ 35 (4 * i + b) : Int) := Int.mul_nonneg (by omega) (by omega)
    have le : (yrP τ i b x).toInt * (un τ 35 (4 * i + b) : Int) ≤ (yrP τ i b y).toInt * (un τ 35 (4 * i + b) : Int) := Int.mul_le_mul_of_nonneg_right (by omega) (by omega)
    unfold yrT
    rw [if_pos (by rw [Int64.lt_iff_toInt_lt, z0I]; exact c), if_pos (by rw [Int64.lt_iff_toInt_lt, z0I]; exact c2), div_I (by rw [mx]; exact nx) (by decide) (by decide), div_I (by rw [my]; omega) (by decide) (by decide), mx, my]
    exact Int.ediv_le_ediv (by decide) le
  · have t := yrT_bd hw hi hb (x := y) ⟨by omega, hy⟩
    have e0 : yrT τ i b x = lN 0 := if_neg c
    rw [e0, z0I]
    exact t.1
theorem yrS_m {τ : Mu} (hw : WF τ) {i : Nat} {x y : Int64} (hi : i < 144) (hx : 0 ≤ x.toInt ∧ x.toInt ≤ y.toInt) (hy : y.toInt ≤ 2 ^ 60) : ∀ n, n ≤ un τ 33 i → (yrS τ i x n).toInt ≤ (yrS τ i y n).toInt
  | 0, _ => Int.le_refl _
  | n + 1, hn => by
    have h4 := (hw.bn i hi).2
    have ih := yrS_m hw hi hx hy n (by omega)
    have t := yrT_m hw hi (b := n) (by omega) hx hy
    have a1 := yrS_bd hw hi (x := x) ⟨hx.1, by omega⟩ n (by omega)
    have a2 := yrS_bd hw hi (x := y) ⟨by omega, hy⟩ n (by omega)
    have t1 := yrT_bd hw hi (x := x) (show n < un τ 33 i by omega) ⟨hx.1, by omega⟩
    have t2 := yrT_bd hw hi (x := y) (show n < un τ 33 i by omega) ⟨by omega, hy⟩
    show (yrS τ i x n + yrT τ i n x).toInt ≤ (yrS τ i y n + yrT τ i n y).toInt
    rw [bd_addI (A := 7200000000000) (B := 1800000000000) ⟨by omega, by omega⟩ ⟨by omega, by omega⟩ (by decide), bd_addI (A := 7200000000000) (B := 1800000000000) ⟨by omega, by omega⟩ ⟨by omega, by omega⟩ (by decide)]
    omega
theorem yearL_m {τ : Mu} (hw : WF τ) {a m : Nat} {x y : Int64} (ha : a + m < 144) (hx : 0 ≤ x.toInt ∧ x.toInt ≤ y.toInt) (hy : y.toInt ≤ 2 ^ 60) : yearL τ a m x ≤ yearL τ a m y := by
  rw [Int64.le_iff_toInt_le]
  unfold yearL lastO
  cases e : lstN (hasB τ 3 a) (m + 1) with
  | none => exact Int.le_refl _
  | some k => exact yrS_m hw (i := a + k) (by have := (lst_lt e).1; omega) hx hy _ (Nat.le_refl _)
