/-! THE CLASS: steps and contracts -/
theorem i_lt {x : Int32} {n : Nat} (h : n < 2 ^ 31) : x < nI n ↔ x.toInt < (n : Int) := by rw [Int32.lt_iff_toInt_lt, nI_toInt h]
theorem i_gt {x : Int32} {n : Nat} (h : n < 2 ^ 31) : nI n < x ↔ (n : Int) < x.toInt := by rw [Int32.lt_iff_toInt_lt, nI_toInt h]
theorem i_le {x : Int32} {n : Nat} (h : n < 2 ^ 31) : x ≤ nI n ↔ x.toInt ≤ (n : Int) := by rw [Int32.le_iff_toInt_le, nI_toInt h]
theorem i_ge {x : Int32} {n : Nat} (h : n < 2 ^ 31) : nI n ≤ x ↔ (n : Int) ≤ x.toInt := by rw [Int32.le_iff_toInt_le, nI_toInt h]
theorem imax_sub {z a b : Nat} (hz : z < 2 ^ 30) (ha : a < 2 ^ 30) (hb : b < 2 ^ 30) : imax (nI z) (nI a - nI b) = nI (max z (a - b)) := by
  by_cases h : b ≤ a
  · rw [pk_sub h, imax_nI (by omega) (by omega)]
  · unfold imax
    rw [if_neg, show max z (a - b) = z by omega]
    rw [Int32.lt_iff_toInt_lt, pk_sub_toInt ha hb, nI_toInt (by omega)]
    omega
theorem d_pos {p : Prop} [Decidable p] (h : p) : bI (decide p) = nI 1 := by rw [decide_eq_true h]; rfl
theorem d_neg {p : Prop} [Decidable p] (h : ¬ p) : bI (decide p) = nI 0 := by rw [decide_eq_false h]; rfl
/-- what holds in a row of steps behind its first n -/
def lsV (V : Nat → Option Int32) : Nat → Int32
  | 0 => 0
  | n + 1 => match V n with | some v => v | none => lsV V n
/-- a Steps that was told V -/
def StV (V : Nat → Option Int32) (i : Nat → Nat → Int32) (h t n : Nat) : Prop := ∀ x, x < n → i t x = bI (V x).isSome ∧ i h x = lsV V (x + 1)
def upV (V : Nat → Option Int32) (k : Nat) (v : Int32) : Nat → Option Int32 := fun x => if x = k then some v else V x
theorem lsV_cg {V W : Nat → Option Int32} : ∀ {n : Nat}, (∀ x, x < n → V x = W x) → lsV V n = lsV W n
  | 0, _ => rfl
  | n + 1, h => by unfold lsV; rw [h n (by omega), lsV_cg (n := n) (fun x hx => h x (by omega))]
theorem lsV_up1 {V : Nat → Option Int32} {k : Nat} {v : Int32} {n : Nat} (h : n ≤ k) : lsV (upV V k v) n = lsV V n := lsV_cg fun x hx => if_neg (by omega)
theorem lsV_s {V : Nat → Option Int32} {n : Nat} {v : Int32} (h : V n = some v) : lsV V (n + 1) = v := by
  show (match V n with | some v => v | none => lsV V n) = v
  rw [h]
theorem lsV_n {V : Nat → Option Int32} {n : Nat} (h : V n = none) : lsV V (n + 1) = lsV V n := by
  show (match V n with | some v => v | none => lsV V n) = _
  rw [h]
theorem lsV_up2 {V : Nat → Option Int32} {k : Nat} {v : Int32} : ∀ {n : Nat}, (∀ y, k < y → y < k + 1 + n → V y = none) → lsV (upV V k v) (k + 1 + n) = v
  | 0, _ => lsV_s (if_pos rfl)
  | n + 1, h => by
    rw [show k + 1 + (n + 1) = (k + 1 + n) + 1 by omega, lsV_n (by unfold upV; rw [if_neg (by omega)]; exact h _ (by omega) (by omega))]
    exact lsV_up2 (fun y a b => h y a (by omega))
theorem lsV_up3 {V : Nat → Option Int32} {k : Nat} {v : Int32} {x y : Nat} (h1 : k < y) (hy : (V y).isSome = true) : ∀ {n : Nat}, x = y + n → lsV (upV V k v) (x + 1) = lsV V (x + 1)
  | 0, e => by
    obtain ⟨w, hw⟩ := Option.isSome_iff_exists.mp hy
    rw [e, Nat.add_zero, lsV_s hw, lsV_s (v := w) (by unfold upV; rw [if_neg (by omega)]; exact hw)]
  | n + 1, e => by
    have ih := lsV_up3 (V := V) (v := v) (x := y + n) h1 hy (n := n) rfl
    rw [e, show y + (n + 1) + 1 = (y + n + 1) + 1 by omega]
    have eu : upV V k v (y + n + 1) = V (y + n + 1) := if_neg (by omega)
    cases hv : V (y + n + 1) with
    | some w => rw [lsV_s hv, lsV_s (eu.trans hv)]
    | none => rw [lsV_n hv, lsV_n (eu.trans hv)]; exact ih
theorem StO.of {M : Mem} {f : Nat → Nat} {n : Nat} (h : Blk (tbSt n) (mK M) (mN M) (mR M) f) : StO M (f 0) (f 1) (f 2) n :=
  ⟨h.k 0 13 rfl, h.r 0 0 1 rfl, h.r 0 1 2 rfl, h.k 1 20 rfl, (h.1 1 (show 1 < 3 by decide)).2, h.k 2 22 rfl, (h.1 2 (show 2 < 3 by decide)).2⟩
/-- what a contract's cells hold -/
def CoF (τ : Mu) (c : Nat) (i : Nat → Nat → Int32) (f : Nat → Nat) : Prop :=
  i (f 0) 0 = nI (un τ 0 c) ∧ i (f 0) 1 = nI (un τ 1 c) ∧ i (f 0) 2 = nI (un τ 2 c) ∧ i (f 0) 3 = nI (un τ 3 c) ∧ i (f 0) 4 = bI (decide (un τ 4 c = 1)) ∧ i (f 0) 5 = nI (un τ 5 c) ∧
  (∀ d, un τ 2 c ≤ d → d ≤ un τ 3 c → i (f 2) d = nI (un τ 7 (720 * c + d))) ∧ ∀ d, d < 720 → i (f 4) d = nI (un τ 8 (720 * c + d))
theorem CoF.cg {τ : Mu} {c : Nat} {i i' : Nat → Nat → Int32} {f : Nat → Nat} (h : CoF τ c i f) (h0 : ∀ k, k < 6 → i' (f 0) k = i (f 0) k) (h2 : i' (f 2) = i (f 2)) (h4 : i' (f 4) = i (f 4)) : CoF τ c i' f := by
  obtain ⟨a0, a1, a2, a3, a4, a5, a6, a7⟩ := h
  exact ⟨by rw [h0 0 (by decide)]; exact a0, by rw [h0 1 (by decide)]; exact a1, by rw [h0 2 (by decide)]; exact a2, by rw [h0 3 (by decide)]; exact a3, by rw [h0 4 (by decide)]; exact a4, by rw [h0 5 (by decide)]; exact a5, by rw [h2]; exact a6, by rw [h4]; exact a7⟩
def cvB (τ : Mu) (c : Nat) (x : Int32) : Bool := decide ((un τ 2 c : Int) ≤ x.toInt ∧ x.toInt ≤ (un τ 3 c : Int))
theorem cvB_N {τ : Mu} {c d : Nat} (hd : d < 2 ^ 31) : cvB τ c (nI d) = isOfN τ c d := by
  unfold cvB isOfN
  rw [nI_toInt hd]
  exact decide_eq_decide.mpr ⟨fun z => by omega, fun z => by omega⟩
def pyI (τ : Mu) (c d : Nat) : Nat := if isOfN τ c d = true then d else un τ 3 c
def pyC (τ : Mu) (c d : Nat) : Nat := un τ 7 (720 * c + pyI τ c d)
theorem pyI_of {τ : Mu} {c d : Nat} (h : un τ 2 c ≤ un τ 3 c) : un τ 2 c ≤ pyI τ c d ∧ pyI τ c d ≤ un τ 3 c := by
  unfold pyI isOfN
  split
  · rename_i z; simpa using z
  · omega
theorem pyC_D {τ : Mu} {c d : Nat} (h : un τ 2 c ≤ d) : pyC τ c d = payD τ c d := by
  unfold pyC payD pyI isOfN
  by_cases z : d ≤ un τ 3 c
  · rw [if_pos (by simp [h, z]), if_neg (by omega), if_neg (by omega)]
  · rw [if_neg (by simp [z]), if_pos (by omega)]
theorem pyC_le {τ : Mu} (hw : WF τ) {c d : Nat} (hc : c < un τ 9 9) : pyC τ c d ≤ 1000000 := by
  have h9 := hw.nc.2
  have h3 := (hw.ct c hc).2
  have h := pyI_of (d := d) (hw.cft c hc)
  exact (hw.py _ (by omega)).2
def hrC' (τ : Mu) (c d : Nat) : Nat := if un τ 4 c = 1 then pyC τ c d else rN (60 * pyC τ c d) (30 * un τ 5 c)
theorem hrC'_le {τ : Mu} (hw : WF τ) {c d : Nat} (hc : c < un τ 9 9) : hrC' τ c d ≤ 1000000 := by
  have h1 := pyC_le hw (d := d) hc
  have h2 := hw.cn0 c hc
  unfold hrC'
  split
  · exact h1
  · refine rN_le (by omega) ?_
    have : 1000000 * 60 ≤ 1000000 * (30 * un τ 5 c) := Nat.mul_le_mul_left _ (by omega)
    omega
theorem rN_0 {b : Nat} (h : 0 < b) : rN 0 b = 0 := by
  unfold rN
  exact Nat.div_eq_of_lt (by omega)
/-- a week without minutes ahead of the contract: overtime is 0 unless the week's last day is not ahead of it -/
theorem ov_hr {τ : Mu} (hw : WF τ) {c w : Nat} (hc : c < un τ 9 9) (hn : w < 103) : rN (hrC' τ c (lastD w) * overN τ c w) 120 = overP τ c w := by
  unfold overP
  by_cases h : un τ 2 c ≤ lastD w
  · unfold hrC' hourN
    rw [pyC_D h]
  · have hl : ∀ d, d ≤ lastD w → un τ 8 (720 * c + d) = 0 := fun d hd => hw.mn0 c d hc (by omega)
    have z : ∀ n, n ≤ ovE w → ovD τ c w n = 0 ∧ ovA τ c w n = 0 := by
      intro n
      induction n with
      | zero => intro _; exact ⟨rfl, rfl⟩
      | succ n ih =>
        intro hn2
        obtain ⟨i1, i2⟩ := ih (by omega)
        have e := hl (7 * w + n) (by unfold lastD; unfold ovE at hn2; split <;> omega)
        constructor
        · show ovD τ c w n + (un τ 8 (720 * c + (7 * w + n)) - un τ 5 c) = 0
          rw [i1, e]; omega
        · show ovA τ c w n + un τ 8 (720 * c + (7 * w + n)) = 0
          rw [i2, e]
    have e0 : overN τ c w = 0 := by
      unfold overN
      rw [(z _ (Nat.le_refl _)).1, (z _ (Nat.le_refl _)).2]; omega
    rw [e0, Nat.mul_zero, Nat.mul_zero]
theorem day_C {τ : Mu} (hw : WF τ) {c d : Nat} (hc : c < un τ 9 9) (hd : d < 720) : dayN τ c d = if un τ 4 c = 1 then un τ 8 (720 * c + d) * pyC τ c d else if isOfN τ c d then pyC τ c d else 0 := by
  unfold dayN
  by_cases h : un τ 2 c ≤ d
  · rw [pyC_D h]
  · have e : isOfN τ c d = false := by unfold isOfN; rw [decide_eq_false]; omega
    rw [hw.mn0 c d hc (by omega), Nat.zero_mul, Nat.zero_mul, e]
    by_cases z : un τ 4 c = 1
    · rw [if_pos z, if_pos z]
    · rw [if_neg z, if_neg z, if_neg (by decide), if_neg (by decide)]
/-- a contract that is not stale -/
def CoW (τ : Mu) (c : Nat) (i : Nat → Nat → Int32) (j : Nat → Nat → Int64) (f : Nat → Nat) : Prop := ∀ m, m < 24 → j (f 7) m = lN (baseD τ c m + baseW τ c m 103) ∧ i (f 8) m = nI (hrC τ c m 30)

section Tell
variable {tv : Nat → Option Int32} {M M1 : Mem} {h t n k : Nat} {v : Int32}
theorem tell_t (hV : StV tv (mI M) h t n) (ht : t ≠ h) (hk : k < n) : ∀ y, y < n → mI (wI (wI M t k (nI 1)) h k v) t y = bI ((upV tv k v) y).isSome := by
  intro y hy
  rw [wI_a ht]
  by_cases e : y = k
  · subst e; rw [wI_i]; unfold upV; rw [if_pos rfl]; rfl
  · rw [wI_k e]; unfold upV; rw [if_neg e]; exact (hV y hy).1
theorem tell_h (hV : StV tv (mI M) h t n) (ht : t ≠ h) (hk : k < n) : ∀ y, y < n → mI (wI (wI M t k (nI 1)) h k v) h y = if y < k + 1 then lsV (upV tv k v) (y + 1) else mI M h y := by
  intro y hy
  by_cases e : y = k
  · subst e; rw [wI_i, if_pos (by omega), lsV_s (if_pos rfl)]
  · rw [wI_k e, wI_a ht.symm]
    by_cases z : y < k + 1
    · rw [if_pos z, lsV_up1 (by omega)]; exact (hV y hy).2
    · rw [if_neg z]
theorem tell_x (htl : ∀ y, y < n → mI M1 t y = bI ((upV tv k v) y).isSome) {x : Nat} (hx : x < n) (hk : k < x) (c : mI M1 t x = 0) : tv x = none := by
  have h1 := htl x hx
  rw [c] at h1
  unfold upV at h1
  rw [if_neg (by omega)] at h1
  cases hv : tv x with
  | none => rfl
  | some w => rw [hv] at h1; exact absurd h1 (show ¬ (0 : Int32) = bI true by decide)
theorem tell_no (hV : StV tv (mI M) h t n) (htl : ∀ y, y < n → mI M1 t y = bI ((upV tv k v) y).isSome) {x : Nat} (hx : x ≤ n) (hk : k < x) (hx2 : x < n) (c : mI M1 t x = 0) (hno : ∀ y, k < y → y < x → tv y = none) : ∀ y, k < y → y < x + 1 → tv y = none := by
  intro y a b
  by_cases e : y = x
  · subst e; exact tell_x htl hx2 hk c
  · exact hno y a (by omega)
theorem tell_s (hV : StV tv (mI M) h t n) (htl : ∀ y, y < n → mI M1 t y = bI ((upV tv k v) y).isSome) {x : Nat} (hho : ∀ y, y < n → mI M1 h y = if y < x then lsV (upV tv k v) (y + 1) else mI M h y) (hx : x < n) (hk : k < x) (c : mI M1 t x = 0) (hno : ∀ y, k < y → y < x → tv y = none) :
    ∀ y, y < n → mI (wI M1 h x v) h y = if y < x + 1 then lsV (upV tv k v) (y + 1) else mI M h y := by
  intro y hy
  by_cases e : y = x
  · subst e
    rw [wI_i, if_pos (by omega)]
    obtain ⟨q, hq⟩ := Nat.exists_eq_add_of_lt hk
    rw [show y + 1 = k + 1 + (q + 1) by omega]
    exact (lsV_up2 (fun z a b => by
      by_cases e : z = y
      · subst e; exact tell_x htl hx hk c
      · exact hno z a (by omega))).symm
  · rw [wI_k e, hho y hy]
    by_cases z : y < x
    · rw [if_pos z, if_pos (by omega)]
    · rw [if_neg z, if_neg (by omega)]
theorem tell_e (hV : StV tv (mI M) h t n) (htl : ∀ y, y < n → mI M1 t y = bI ((upV tv k v) y).isSome) {x : Nat} (hho : ∀ y, y < n → mI M1 h y = if y < x then lsV (upV tv k v) (y + 1) else mI M h y) (hx : x ≤ n) (c : x = n ∨ (k < x ∧ x < n ∧ ¬ mI M1 t x = 0)) : StV (upV tv k v) (mI M1) h t n := by
  intro y hy
  refine ⟨htl y hy, ?_⟩
  rw [hho y hy]
  by_cases z : y < x
  · rw [if_pos z]
  · rw [if_neg z, (hV y hy).2]
    rcases c with c | ⟨c1, c2, c3⟩
    · omega
    · rw [htl x c2] at c3
      unfold upV at c3
      rw [if_neg (by omega)] at c3
      exact (lsV_up3 c1 ((bI_n _).mp c3) (n := y - x) (by omega)).symm
end Tell
set_option maxHeartbeats 4000000 in
set_option maxRecDepth 100000 in
theorem c_X10_tell (l : Launch) (hfl : l.flags = flags0) (G : gW) (M : Mem) (f : Nat → Nat) (n : Nat) (hn : n < 2 ^ 30) (hb : Blk (tbSt n) (mK M) (mN M) (mR M) f) (tv : Nat → Option Int32) (hV : StV tv (mI M) (f 1) (f 2) n) (k v : Nat) (hk : k < n) : CT l yX10_tell cX10_tell 4 none 0 0 0 0 G M [.ref (f 0), .int (nI k), .int (nI v)] (fun v_ M' => v_ = none ∧ frm (fun a => a = f 1 ∨ a = f 2) M M' ∧ StV (upV tv k (nI v)) (mI M') (f 1) (f 2) n) := by
  refine CT.of hfl rfl (Nat.le_of_ble_eq_true rfl) ?_
  intro pp ee ss mm ar bw mt cd C hgX hr hini
  have hn1 : mN M (f 1) = n := (hb.1 1 (show 1 < 3 by decide)).2
  have hn2 : mN M (f 2) = n := (hb.1 2 (show 2 < 3 by decide)).2
  have h12 : f 2 ≠ f 1 := hb.neq (show 2 < 3 by decide) (show 1 < 3 by decide) (by decide)
  refine V.eLo (lo' := [(0, .ref (f 0)), (1, .int (nI k)), (2, .int (nI v))]) rfl ?_
  refine r_iload_n C 1 dX10_tell_0 rfl rfl ?_
  refine r_if_ltN C (t := 13) (by omega) dX10_tell_1 (by decide) ?_
  refine r_iload_n C 1 dX10_tell_4 rfl rfl ?_
  refine r_aload_n C 0 dX10_tell_5 rfl rfl ?_
  refine r_getR C (b := (f 1)) fl_X10_13 rfl (hb.k 0 13 rfl) (hb.r 0 0 1 rfl) dX10_tell_6 ?_
  refine r_alen C (v := nI n) 0 (by decide) (hb.k 1 20 rfl) (by rw [show mN _ _ = _ from hn1]; rfl) dX10_tell_9 ?_
  refine r_icmp_ltN C (t := 14) (by omega) (by omega) dX10_tell_10 (by decide) (fun c10 => ?_) (fun c10 => ?_)
  · skip
    refine r_aload_n C 0 dX10_tell_14 rfl rfl ?_
    refine r_getR C (b := (f 2)) fl_X10_19 rfl (hb.k 0 13 rfl) (hb.r 0 1 2 rfl) dX10_tell_15 ?_
    refine r_iload_n C 1 dX10_tell_18 rfl rfl ?_
    refine r_iconst C (v := nI 1) dX10_tell_19 (by decide) ?_
    refine r_zastoreN C (by decide) (hb.k 2 22 rfl) hn2 (by omega) (by omega) dX10_tell_20 ?_
    refine r_aload_n C 0 dX10_tell_21 rfl rfl ?_
    refine r_getR C (b := (f 1)) fl_X10_13 rfl (hb.k 0 13 rfl) (hb.r 0 0 1 rfl) dX10_tell_22 ?_
    refine r_iload_n C 1 dX10_tell_25 rfl rfl ?_
    refine r_iload_n C 2 dX10_tell_26 rfl rfl ?_
    refine r_iastoreN C (hb.k 1 20 rfl) hn1 (by omega) (by omega) dX10_tell_27 ?_
    refine r_iload_n C 1 dX10_tell_28 rfl rfl ?_
    refine r_iconst C (v := nI 1) dX10_tell_29 (by decide) ?_
    refine r_iaddN C dX10_tell_30 ?_
    refine r_istore_n C (lo' := [(3, .int (nI (k + 1))), (0, .ref (f 0)), (1, .int (nI k)), (2, .int (nI v))]) dX10_tell_31 rfl (by decide) rfl ?_
    have lp32 : ∀ (k32 : Nat) (M1 : Mem) (x : Nat) (hx : x ≤ n) (hkx : k < x) (hfm : frm (fun a => a = f 1 ∨ a = f 2) M M1) (hno : ∀ y, k < y → y < x → tv y = none) (htl : ∀ y, y < n → mI M1 (f 2) y = bI ((upV tv k (nI v)) y).isSome) (hho : ∀ y, y < n → mI M1 (f 1) y = if y < x then lsV (upV tv k (nI v)) (y + 1) else mI M (f 1) y), n + 1 - x < k32 → V pp l ee ({ frames := 0, cells := 0, slots := 0, locals := 0 } : Room) ss mm ar bw mt cd G (MQ bw (Ke G (fun v_ M' => v_ = none ∧ frm (fun a => a = f 1 ∨ a = f 2) M M' ∧ StV (upV tv k (nI v)) (mI M') (f 1) (f 2) n)) ar ss 0 0 (gA G)) 4 M1 0 0 32 [(0, .ref (f 0)), (1, .int (nI k)), (2, .int (nI v)), (3, .int (nI x))] [] := by
      intro k32
      induction k32 with
      | zero => intro M1 x hx hkx hfm hno htl hho hz32; exact absurd hz32 (Nat.not_lt_zero _)
      | succ k32 ih32 =>
        intro M1 x hx hkx hfm hno htl hho hz32
        have hb := hfm.blk hb
        have hn1 : mN M1 (f 1) = n := (hb.1 1 (show 1 < 3 by decide)).2
        have hn2 : mN M1 (f 2) = n := (hb.1 2 (show 2 < 3 by decide)).2
        refine r_iload_n C 3 dX10_tell_32 rfl rfl ?_
        refine r_aload_n C 0 dX10_tell_33 rfl rfl ?_
        refine r_getR C (b := (f 1)) fl_X10_13 rfl (hb.k 0 13 rfl) (hb.r 0 0 1 rfl) dX10_tell_34 ?_
        refine r_alen C (v := nI n) 0 (by decide) (hb.k 1 20 rfl) (by rw [show mN _ _ = _ from hn1]; rfl) dX10_tell_37 ?_
        refine r_icmp_geN C (t := 63) (by omega) (by omega) dX10_tell_38 (by decide) (fun c38 => ?_) (fun c38 => ?_)
        · skip
          have ex : x = n := by omega
          exact r_vret C hr (⟨rfl, hfm, tell_e hV htl hho hx (.inl ex)⟩) (by first | exact Nat.zero_le _ | decide) (by first | exact Nat.zero_le _ | decide) dX10_tell_63
        · skip
          refine r_aload_n C 0 dX10_tell_41 rfl rfl ?_
          refine r_getR C (b := (f 2)) fl_X10_19 rfl (hb.k 0 13 rfl) (hb.r 0 1 2 rfl) dX10_tell_42 ?_
          refine r_iload_n C 3 dX10_tell_45 rfl rfl ?_
          refine r_zaloadN C (hb.k 2 22 rfl) hn2 (by omega) (by omega) dX10_tell_46 ?_
          refine r_if_ne C (t := 63) dX10_tell_47 (by decide) (fun c47 => ?_) (fun c47 => ?_)
          · skip
            exact r_vret C hr (⟨rfl, hfm, tell_e hV htl hho hx (.inr ⟨hkx, by omega, c47⟩)⟩) (by first | exact Nat.zero_le _ | decide) (by first | exact Nat.zero_le _ | decide) dX10_tell_63
          · skip
            refine r_aload_n C 0 dX10_tell_50 rfl rfl ?_
            refine r_getR C (b := (f 1)) fl_X10_13 rfl (hb.k 0 13 rfl) (hb.r 0 0 1 rfl) dX10_tell_51 ?_
            refine r_iload_n C 3 dX10_tell_54 rfl rfl ?_
            refine r_iload_n C 2 dX10_tell_55 rfl rfl ?_
            refine r_iastoreN C (hb.k 1 20 rfl) hn1 (by omega) (by omega) dX10_tell_56 ?_
            refine r_iinc C (v := nI (x + 1)) (lo' := [(3, .int (nI (x + 1))), (0, .ref (f 0)), (1, .int (nI k)), (2, .int (nI v))]) 3 dX10_tell_57 rfl (nI_addI x 1) (by decide) rfl ?_
            refine r_goto C (t := 32) dX10_tell_60 (by decide) ?_
            refine V.sub [1, 2, 3, 0] (lo' := [(0, .ref (f 0)), (1, .int (nI k)), (2, .int (nI v)), (3, .int (nI (x + 1)))]) rfl ?_
            exact ih32 (wI M1 (f 1) x (nI v)) (x + 1) (by omega) (by omega) (hfm.wi _ _ (.inl rfl)) (tell_no hV htl (by omega) hkx (by omega) c47 hno) (fun y hy => (congrFun (wI_a h12) y).trans (htl y hy)) (tell_s hV htl hho (by omega) hkx c47 hno) (by omega)
    refine V.sub [1, 2, 3, 0] (lo' := [(0, .ref (f 0)), (1, .int (nI k)), (2, .int (nI v)), (3, .int (nI (k + 1)))]) rfl ?_
    exact lp32 _ (wI (wI M (f 2) k (nI 1)) (f 1) k (nI v)) (k + 1) (by omega) (by omega) (((frm.rf _ _).wi _ _ (.inr rfl)).wi _ _ (.inl rfl)) (fun y a b => absurd a (by omega)) (tell_t hV h12 hk) (tell_h hV h12 hk) (Nat.lt_succ_self _)
  · exact absurd hk (by omega)
set_option maxHeartbeats 4000000 in
set_option maxRecDepth 100000 in
theorem c_X3_covers (l : Launch) (hfl : l.flags = flags0) (G : gW) (M : Mem) (f : Nat → Nat) (hb : Blk tbCo (mK M) (mN M) (mR M) f) (τ : Mu) (hw : WF τ) (c : Nat) (hc : c < un τ 9 9) (hf : CoF τ c (mI M) f) (x : Int32) : CT l yX3_covers cX3_covers 2 (some .boolean) 0 0 0 0 G M [.ref (f 0), .int x] (fun v M' => v = some (.int (bI (cvB τ c x))) ∧ M = M') := by
  refine CT.of hfl rfl (Nat.le_of_ble_eq_true rfl) ?_
  intro pp ee ss mm ar bw mt cd C hgX hr hini
  have h9 := hw.nc.2
  have hcf := (hw.cf c hc).2
  have hct := (hw.ct c hc).2
  have hft := hw.cft c hc
  have hcn := (hw.cn c hc).2
  have hcn0 := hw.cn0 c hc
  obtain ⟨hf0, hf1, hf2, hf3, hf4, hf5, hpy, hmi⟩ := id hf
  refine V.eLo (lo' := [(0, .ref (f 0)), (1, .int x)]) rfl ?_
  refine r_iload_n C 1 dX3_covers_0 rfl rfl ?_
  refine r_aload_n C 0 dX3_covers_1 rfl rfl ?_
  refine r_getI C fl_X3_51 rfl (hb.k 0 6 rfl) dX3_covers_2 ?_
  refine V.ei (y := nI (un τ 2 c)) (hf2) ?_
  refine r_icmp_lt C (t := 20) dX3_covers_5 (by decide) (fun c5 => ?_) (fun c5 => ?_)
  · skip
    refine r_iconst C (v := nI 0) dX3_covers_20 (by decide) ?_
    exact r_zret C hr (by decide) (⟨by unfold cvB; exact congrArg (fun z => some (Value.int z)) (d_neg (by simp only [i_lt (n := un τ 2 c) (by omega), i_gt (n := un τ 3 c) (by omega)] at *; omega)).symm, rfl⟩) (by first | exact Nat.zero_le _ | decide) (by first | exact Nat.zero_le _ | decide) dX3_covers_21
  · skip
    refine r_iload_n C 1 dX3_covers_8 rfl rfl ?_
    refine r_aload_n C 0 dX3_covers_9 rfl rfl ?_
    refine r_getI C fl_X3_54 rfl (hb.k 0 6 rfl) dX3_covers_10 ?_
    refine V.ei (y := nI (un τ 3 c)) (hf3) ?_
    refine r_icmp_gt C (t := 20) dX3_covers_13 (by decide) (fun c13 => ?_) (fun c13 => ?_)
    · skip
      refine r_iconst C (v := nI 0) dX3_covers_20 (by decide) ?_
      exact r_zret C hr (by decide) (⟨by unfold cvB; exact congrArg (fun z => some (Value.int z)) (d_neg (by simp only [i_lt (n := un τ 2 c) (by omega), i_gt (n := un τ 3 c) (by omega)] at *; omega)).symm, rfl⟩) (by first | exact Nat.zero_le _ | decide) (by first | exact Nat.zero_le _ | decide) dX3_covers_21
    · skip
      refine r_iconst C (v := nI 1) dX3_covers_16 (by decide) ?_
      refine r_goto C (t := 21) dX3_covers_17 (by decide) ?_
      exact r_zret C hr (by decide) (⟨by unfold cvB; exact congrArg (fun z => some (Value.int z)) (d_pos (by simp only [i_lt (n := un τ 2 c) (by omega), i_gt (n := un τ 3 c) (by omega)] at *; omega)).symm, rfl⟩) (by first | exact Nat.zero_le _ | decide) (by first | exact Nat.zero_le _ | decide) dX3_covers_21
set_option maxHeartbeats 4000000 in
set_option maxRecDepth 100000 in
theorem c_X3_hasDayIn (l : Launch) (hfl : l.flags = flags0) (G : gW) (M : Mem) (f : Nat → Nat) (hb : Blk tbCo (mK M) (mN M) (mR M) f) (τ : Mu) (hw : WF τ) (c : Nat) (hc : c < un τ 9 9) (hf : CoF τ c (mI M) f) (m : Nat) (hm : m < 24) : CT l yX3_hasDayIn cX3_hasDayIn 2 (some .boolean) 0 0 0 0 G M [.ref (f 0), .int (nI m)] (fun v M' => v = some (.int (bI (decide (un τ 2 c < 30 * m + 30 ∧ 30 * m ≤ un τ 3 c)))) ∧ M = M') := by
  refine CT.of hfl rfl (Nat.le_of_ble_eq_true rfl) ?_
  intro pp ee ss mm ar bw mt cd C hgX hr hini
  have h9 := hw.nc.2
  have hcf := (hw.cf c hc).2
  have hct := (hw.ct c hc).2
  have hft := hw.cft c hc
  have hcn := (hw.cn c hc).2
  have hcn0 := hw.cn0 c hc
  obtain ⟨hf0, hf1, hf2, hf3, hf4, hf5, hpy, hmi⟩ := id hf
  refine V.eLo (lo' := [(0, .ref (f 0)), (1, .int (nI m))]) rfl ?_
  refine r_aload_n C 0 dX3_hasDayIn_0 rfl rfl ?_
  refine r_getI C fl_X3_51 rfl (hb.k 0 6 rfl) dX3_hasDayIn_1 ?_
  refine V.ei (y := nI (un τ 2 c)) (hf2) ?_
  refine r_iload_n C 1 dX3_hasDayIn_4 rfl rfl ?_
  refine r_iconst C (v := nI 1) dX3_hasDayIn_5 (by decide) ?_
  refine r_iaddN C dX3_hasDayIn_6 ?_
  refine r_bipush C (v := nI 30) dX3_hasDayIn_7 (by decide) ?_
  refine r_imulN C dX3_hasDayIn_9 ?_
  refine r_icmp_geN C (t := 28) (by omega) (by omega) dX3_hasDayIn_10 (by decide) (fun c10 => ?_) (fun c10 => ?_)
  · skip
    refine r_iconst C (v := nI 0) dX3_hasDayIn_28 (by decide) ?_
    exact r_zret C hr (by decide) (⟨congrArg (fun z => some (Value.int z)) (d_neg (by omega)).symm, rfl⟩) (by first | exact Nat.zero_le _ | decide) (by first | exact Nat.zero_le _ | decide) dX3_hasDayIn_29
  · skip
    refine r_aload_n C 0 dX3_hasDayIn_13 rfl rfl ?_
    refine r_getI C fl_X3_54 rfl (hb.k 0 6 rfl) dX3_hasDayIn_14 ?_
    refine V.ei (y := nI (un τ 3 c)) (hf3) ?_
    refine r_iload_n C 1 dX3_hasDayIn_17 rfl rfl ?_
    refine r_bipush C (v := nI 30) dX3_hasDayIn_18 (by decide) ?_
    refine r_imulN C dX3_hasDayIn_20 ?_
    refine r_icmp_ltN C (t := 28) (by omega) (by omega) dX3_hasDayIn_21 (by decide) (fun c21 => ?_) (fun c21 => ?_)
    · skip
      refine r_iconst C (v := nI 0) dX3_hasDayIn_28 (by decide) ?_
      exact r_zret C hr (by decide) (⟨congrArg (fun z => some (Value.int z)) (d_neg (by omega)).symm, rfl⟩) (by first | exact Nat.zero_le _ | decide) (by first | exact Nat.zero_le _ | decide) dX3_hasDayIn_29
    · skip
      refine r_iconst C (v := nI 1) dX3_hasDayIn_24 (by decide) ?_
      refine r_goto C (t := 29) dX3_hasDayIn_25 (by decide) ?_
      exact r_zret C hr (by decide) (⟨congrArg (fun z => some (Value.int z)) (d_pos (by omega)).symm, rfl⟩) (by first | exact Nat.zero_le _ | decide) (by first | exact Nat.zero_le _ | decide) dX3_hasDayIn_29
set_option maxHeartbeats 4000000 in
set_option maxRecDepth 100000 in
theorem c_X3_payOn (l : Launch) (hfl : l.flags = flags0) (G : gW) (M : Mem) (f : Nat → Nat) (hb : Blk tbCo (mK M) (mN M) (mR M) f) (τ : Mu) (hw : WF τ) (c : Nat) (hc : c < un τ 9 9) (hf : CoF τ c (mI M) f) (d : Nat) (hd : d < 720) : CT l yX3_payOn cX3_payOn 2 (some .int) 1 0 0 21 G M [.ref (f 0), .int (nI d)] (fun v M' => v = some (.int (nI (pyC τ c d))) ∧ M = M') := by
  refine CT.of hfl rfl (Nat.le_of_ble_eq_true rfl) ?_
  intro pp ee ss mm ar bw mt cd C hgX hr hini
  have h9 := hw.nc.2
  have hcf := (hw.cf c hc).2
  have hct := (hw.ct c hc).2
  have hft := hw.cft c hc
  have hcn := (hw.cn c hc).2
  have hcn0 := hw.cn0 c hc
  obtain ⟨hf0, hf1, hf2, hf3, hf4, hf5, hpy, hmi⟩ := id hf
  refine V.eLo (lo' := [(0, .ref (f 0)), (1, .int (nI d))]) rfl ?_
  refine r_aload_n C 0 dX3_payOn_0 rfl rfl ?_
  refine r_getR C (b := (f 1)) fl_X3_14 rfl (hb.k 0 6 rfl) (hb.r 0 6 1 rfl) dX3_payOn_1 ?_
  have jn20 : V pp l ee ({ frames := 1, cells := 0, slots := 0, locals := 21 } : Room) ss mm ar bw mt cd G (MQ bw (Ke G (fun v M' => v = some (.int (nI (pyC τ c d))) ∧ M = M')) ar ss 0 0 (gA G)) 2 M 0 0 20 [(0, .ref (f 0)), (1, .int (nI d))] [.int (nI (pyI τ c d)), .ref (f 1)] := by
    skip
    have hpi := pyI_of (d := d) hft
    refine r_callV C hgX (ci := 12) ml_X3_67 im_X10_at se_X10_at rfl rfl (hb.k 1 13 rfl) (c_X10_at l hfl G M (f 1) (f 2) (f 3) 720 (pyI τ c d) (⟨hb.k 1 13 rfl, hb.r 1 0 2 rfl, hb.r 1 1 3 rfl, hb.k 2 20 rfl, hb.n 2 720 rfl, hb.k 3 22 rfl, hb.n 3 720 rfl⟩) (by decide) (by omega)) rfl (Nat.le_of_ble_eq_true rfl) ⟨Nat.le_of_ble_eq_true rfl, Nat.le_of_ble_eq_true rfl⟩ ⟨Nat.le_of_ble_eq_true rfl, Nat.le_of_ble_eq_true rfl⟩ dX3_payOn_20 rfl ?_
    rintro _ _ ⟨rfl, rfl⟩
    refine V.eSt (st' := [.int (mI M (f 2) (pyI τ c d))]) rfl ?_
    refine V.ei (y := nI (pyC τ c d)) (hpy _ hpi.1 hpi.2) ?_
    exact r_iret C hr (⟨rfl, rfl⟩) (by first | exact Nat.zero_le _ | decide) (by first | exact Nat.zero_le _ | decide) dX3_payOn_23
  refine r_aload_n C 0 dX3_payOn_4 rfl rfl ?_
  refine r_iload_n C 1 dX3_payOn_5 rfl rfl ?_
  refine r_callV C hgX (ci := 5) ml_X3_63 im_X3_covers se_X3_covers rfl rfl (hb.k 0 6 rfl) (c_X3_covers l hfl G M f hb τ hw c hc hf (nI d)) rfl (Nat.le_of_ble_eq_true rfl) ⟨Nat.le_of_ble_eq_true rfl, Nat.le_of_ble_eq_true rfl⟩ ⟨Nat.le_of_ble_eq_true rfl, Nat.le_of_ble_eq_true rfl⟩ dX3_payOn_6 rfl ?_
  rintro _ _ ⟨rfl, rfl⟩
  refine V.eSt (st' := [.int (bI (cvB τ c (nI d))), .ref (f 1)]) rfl ?_
  refine r_if_eqB C (t := 16) dX3_payOn_9 (by decide) (fun c9 => ?_) (fun c9 => ?_)
  · skip
    refine r_aload_n C 0 dX3_payOn_16 rfl rfl ?_
    refine r_getI C fl_X3_54 rfl (hb.k 0 6 rfl) dX3_payOn_17 ?_
    refine V.ei (y := nI (un τ 3 c)) (hf3) ?_
    refine V.ei (y := nI (pyI τ c d)) (congrArg nI (by unfold pyI; rw [if_neg (by rw [← cvB_N (by omega), c9]; decide)])) ?_
    exact jn20
  · skip
    refine r_iload_n C 1 dX3_payOn_12 rfl rfl ?_
    refine r_goto C (t := 20) dX3_payOn_13 (by decide) ?_
    refine V.ei (y := nI (pyI τ c d)) (congrArg nI (by unfold pyI; rw [if_pos (by rw [← cvB_N (by omega), c9])])) ?_
    exact jn20
set_option maxHeartbeats 4000000 in
set_option maxRecDepth 100000 in
theorem c_X3_baseIn (l : Launch) (hfl : l.flags = flags0) (G : gW) (M : Mem) (f : Nat → Nat) (hb : Blk tbCo (mK M) (mN M) (mR M) f) (m : Nat) (hm : m < 24) : CT l yX3_baseIn cX3_baseIn 2 (some .long) 0 0 0 0 G M [.ref (f 0), .int (nI m)] (fun v M' => v = some (.long (mL M (f 7) m + mL M (f 9) m)) ∧ M = M') := by
  refine CT.of hfl rfl (Nat.le_of_ble_eq_true rfl) ?_
  intro pp ee ss mm ar bw mt cd C hgX hr hini
  refine V.eLo (lo' := [(0, .ref (f 0)), (1, .int (nI m))]) rfl ?_
  refine r_aload_n C 0 dX3_baseIn_0 rfl rfl ?_
  refine r_getR C (b := (f 7)) fl_X3_34 rfl (hb.k 0 6 rfl) (hb.r 0 12 7 rfl) dX3_baseIn_1 ?_
  refine r_iload_n C 1 dX3_baseIn_4 rfl rfl ?_
  refine r_laloadN C (hb.k 7 21 rfl) (hb.n 7 24 rfl) (by omega) (by omega) dX3_baseIn_5 ?_
  refine r_aload_n C 0 dX3_baseIn_6 rfl rfl ?_
  refine r_getR C (b := (f 9)) fl_X3_41 rfl (hb.k 0 6 rfl) (hb.r 0 14 9 rfl) dX3_baseIn_7 ?_
  refine r_iload_n C 1 dX3_baseIn_10 rfl rfl ?_
  refine r_laloadN C (hb.k 9 21 rfl) (hb.n 9 24 rfl) (by omega) (by omega) dX3_baseIn_11 ?_
  refine r_ladd C dX3_baseIn_12 ?_
  exact r_lret C hr (⟨rfl, rfl⟩) (by first | exact Nat.zero_le _ | decide) (by first | exact Nat.zero_le _ | decide) dX3_baseIn_13

