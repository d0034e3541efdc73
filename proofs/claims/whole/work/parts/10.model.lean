/-! THE REFERENCE: its arrays lie behind it, one behind the other -/
def mrk : List Nat := [1, 2, 3, 4, 5, 6, 7, 8, 9, 0, 10, 11, 12, 0, 13, 14, 15, 0, 0, 0, 0, 0, 16, 17, 18, 19, 0, 20, 21, 22, 23, 24, 25, 26, 27, 28, 29, 30, 31, 32, 33, 34, 35, 36, 0, 37, 0, 38, 39, 40, 41, 0, 42, 43, 44, 45, 46, 47, 48, 49, 50, 51, 52, 53, 54, 55, 56, 0, 57, 58]
def mkd : List Nat := [20, 20, 20, 20, 20, 20, 20, 20, 20, 0, 20, 20, 20, 0, 20, 20, 20, 0, 0, 0, 0, 0, 20, 20, 20, 20, 0, 20, 21, 21, 20, 20, 20, 20, 20, 20, 20, 20, 20, 20, 20, 20, 20, 20, 0, 21, 0, 20, 20, 21, 20, 0, 21, 21, 20, 21, 21, 21, 21, 21, 21, 21, 21, 21, 21, 21, 21, 0, 21, 21]
def mln : List Nat := [10, 10, 10, 10, 10, 10, 7200, 7200, 7200, 0, 40, 40, 40, 0, 30, 30, 30, 0, 0, 0, 0, 0, 70, 70, 7, 6, 0, 6, 10, 6, 432, 72, 72, 144, 576, 576, 144, 144, 6, 6, 6, 6, 6, 6, 0, 144, 0, 144, 144, 144, 144, 0, 72, 72, 72, 72, 72, 72, 72, 72, 24, 24, 24, 24, 24, 144, 144, 0, 432, 432]
-- 0 cw, 1 cp, 2 cf, 3 ct, 4 ch, 5 cn, 6 told, 7 pays, 8 mins, 9 contracts, 10 sc, 11 sb, 12 sl, 13 shifts, 14 lc, 15 ld, 16 lt, 17 leaves, 18 rate, 19 carry, 20 term, 21 leftNow, 22 ew, 23 en, 24 el, 25 ep, 26 elements, 27 order, 28 pile, 29 comes, 30 bonus, 31 cr, 32 cc, 33 bn, 34 be, 35 bt, 36 st, 37 pt, 38 gw, 39 gm, 40 gr, 41 gt, 42 gp, 43 gk, 44 garnishments, 45 adv, 46 open, 47 pw, 48 pm, 49 pc, 50 pb, 51 payments, 52 ft, 53 fc, 54 corrected, 55 gross, 56 counted, 57 contr, 58 taxed, 59 tax, 60 pens, 61 match, 62 net, 63 taken, 64 payout, 65 elems, 66 gone, 67 thrown, 68 dues, 69 parts
/-- where field k of the reference at mb lies: an array's first cell, or the reference itself -/
def ma (mb k : Nat) : Nat := mb + mrk.getD k 0
/-- the shapes -/
def MOK (K N : Nat → Nat) (R : Nat → Nat → Option Nat) (mb : Nat) : Prop := K mb = 15 ∧ ∀ k, k < 70 → mkd.getD k 0 ≠ 0 → R mb k = some (ma mb k) ∧ K (ma mb k) = mkd.getD k 0 ∧ N (ma mb k) = mln.getD k 0
theorem MOK.k {K N : Nat → Nat} {R : Nat → Nat → Option Nat} {mb : Nat} (h : MOK K N R mb) : K mb = 14 + 1 := h.1
theorem MOK.r {K N : Nat → Nat} {R : Nat → Nat → Option Nat} {mb : Nat} (h : MOK K N R mb) (k : Nat) (hk : (decide (k < 70) && (mkd.getD k 0 != 0)) = true) : R mb k = some (ma mb k) := (h.2 k (by simp at hk; exact hk.1) (by simp at hk; simpa using hk.2)).1
theorem MOK.i {K N : Nat → Nat} {R : Nat → Nat → Option Nat} {mb : Nat} (h : MOK K N R mb) (k κ : Nat) (hk : (decide (k < 70) && (mkd.getD k 0 == κ) && (κ != 0)) = true) : K (ma mb k) = κ := by
  simp only [Bool.and_eq_true, decide_eq_true_eq, beq_iff_eq, bne_iff_ne] at hk
  rw [(h.2 k hk.1.1 (by rw [hk.1.2]; exact hk.2)).2.1]
  exact hk.1.2
theorem MOK.n {K N : Nat → Nat} {R : Nat → Nat → Option Nat} {mb : Nat} (h : MOK K N R mb) (k n : Nat) (hk : (decide (k < 70) && (mkd.getD k 0 != 0) && (mln.getD k 0 == n)) = true) : N (ma mb k) = n := by
  simp only [Bool.and_eq_true, decide_eq_true_eq, beq_iff_eq, bne_iff_ne] at hk
  rw [(h.2 k hk.1.1 hk.1.2).2.2]
  exact hk.2
theorem ma_ne {mb j k : Nat} (h : (mrk.getD j 0 == mrk.getD k 0) = false) : ma mb j ≠ ma mb k := by
  unfold ma
  have h2 := beq_eq_false_iff_ne.mp h
  omega
theorem ma_0 {mb j : Nat} (h : (mrk.getD j 0 == 0) = false) : ma mb j ≠ mb := by
  unfold ma
  have h2 := beq_eq_false_iff_ne.mp h
  omega
theorem rng_in (x : Int32) (n : Nat) (k : Int64) (hk : k.toInt + 1 = (n : Int)) : decide ((0 : Int64) ≤ x.toInt64 ∧ x.toInt64 ≤ k) = decide (0 ≤ x.toInt ∧ x.toInt < (n : Int)) := by
  apply decide_eq_decide.mpr
  rw [Int64.le_iff_toInt_le, Int64.le_iff_toInt_le, Int32.toInt_toInt64, show (0 : Int64).toInt = 0 from rfl]
  omega
/-- an int in a range from 0 -/
def rng (x : Int32) (n : Nat) : Bool := decide (0 ≤ x.toInt ∧ x.toInt < (n : Int))
theorem rng_nI {j n : Nat} (h : j < 2 ^ 31) : rng (nI j) n = decide (j < n) := by
  unfold rng
  rw [nI_toInt h]
  exact decide_eq_decide.mpr ⟨fun z => by omega, fun z => by omega⟩
theorem rng_t {x : Int32} {n : Nat} (h : rng x n = true) : ∃ j, j < n ∧ x = nI j := by
  unfold rng at h
  obtain ⟨h1, h2⟩ := of_decide_eq_true h
  have h3 : ¬ x < 0 := by rw [Int32.lt_iff_toInt_lt, Int32.toInt_zero]; omega
  obtain ⟨j, hj, rfl⟩ := nI_of h3
  rw [nI_toInt hj] at h2
  exact ⟨j, by omega, rfl⟩
theorem rng_f {x : Int32} {n : Nat} (h : rng x n = false) : ∀ j, j < n → j < 2 ^ 31 → x ≠ nI j := by
  intro j hj hj2 e
  subst e
  rw [rng_nI hj2, decide_eq_false_iff_not] at h
  exact h hj
/-- long from int: order -/
theorem i64_le (a b : Int32) : a.toInt64 ≤ b.toInt64 ↔ a ≤ b := by
  rw [Int64.le_iff_toInt_le, Int32.le_iff_toInt_le, Int32.toInt_toInt64, Int32.toInt_toInt64]
theorem i64_le_k (a : Int32) (k : Int64) : a.toInt64 ≤ k ↔ a.toInt ≤ k.toInt := by
  rw [Int64.le_iff_toInt_le, Int32.toInt_toInt64]
theorem i64_k_le (a : Int32) (k : Int64) : k ≤ a.toInt64 ↔ k.toInt ≤ a.toInt := by
  rw [Int64.le_iff_toInt_le, Int32.toInt_toInt64]
set_option maxHeartbeats 4000000 in
set_option maxRecDepth 100000 in
theorem c_X12_in (l : Launch) (hfl : l.flags = flags0) (G : gW) (M : Mem) (mb : Nat) (x y z : Int64) : CT l yX12_in cX12_in 7 (some .boolean) 0 0 0 0 G M [.ref mb, .long x, .long y, .long z] (fun v M' => v = some (.int (bI (decide (y ≤ x ∧ x ≤ z)))) ∧ M = M') := by
  refine CT.of hfl rfl (Nat.le_of_ble_eq_true rfl) ?_
  intro pp ee ss mm ar bw mt cd C hgX hr hini
  refine V.eLo (lo' := [(0, .ref mb), (1, .long x), (3, .long y), (5, .long z)]) rfl ?_
  refine r_lload_n C 1 dX12_in_0 rfl rfl ?_
  refine r_lload_n C 2 dX12_in_1 rfl rfl ?_
  refine r_lcmp_lt C (t := 17) dX12_in_2 dX12_in_3 (by decide) (fun c3 => ?_) (fun c3 => ?_)
  · skip
    refine r_iconst C (v := nI 0) dX12_in_17 (by decide) ?_
    exact r_zret C hr (by decide) (⟨by rw [decide_eq_false (by intro q; obtain ⟨q1, q2⟩ := q; simp only [Int64.lt_iff_toInt_lt, Int64.le_iff_toInt_le] at *; omega)]; rfl, rfl⟩) (by first | exact Nat.zero_le _ | decide) (by first | exact Nat.zero_le _ | decide) dX12_in_18
  · skip
    refine r_lload_n C 1 dX12_in_6 rfl rfl ?_
    refine r_lload C 3 dX12_in_7 rfl ?_
    refine r_lcmp_gt C (t := 17) dX12_in_9 dX12_in_10 (by decide) (fun c10 => ?_) (fun c10 => ?_)
    · skip
      refine r_iconst C (v := nI 0) dX12_in_17 (by decide) ?_
      exact r_zret C hr (by decide) (⟨by rw [decide_eq_false (by intro q; obtain ⟨q1, q2⟩ := q; simp only [Int64.lt_iff_toInt_lt, Int64.le_iff_toInt_le] at *; omega)]; rfl, rfl⟩) (by first | exact Nat.zero_le _ | decide) (by first | exact Nat.zero_le _ | decide) dX12_in_18
    · skip
      refine r_iconst C (v := nI 1) dX12_in_13 (by decide) ?_
      refine r_goto C (t := 18) dX12_in_14 (by decide) ?_
      exact r_zret C hr (by decide) (⟨by rw [decide_eq_true (by simp only [Int64.lt_iff_toInt_lt, Int64.le_iff_toInt_le] at *; omega)]; rfl, rfl⟩) (by first | exact Nat.zero_le _ | decide) (by first | exact Nat.zero_le _ | decide) dX12_in_18
set_option maxHeartbeats 4000000 in
set_option maxRecDepth 100000 in
theorem c_X12_isPerson (l : Launch) (hfl : l.flags = flags0) (G : gW) (M : Mem) (mb : Nat) (hm : MOK (mK M) (mN M) (mR M) mb) (x : Int32) : CT l yX12_isPerson cX12_isPerson 2 (some .boolean) 1 0 0 26 G M [.ref mb, .int x] (fun v M' => v = some (.int (bI (rng x 6))) ∧ M = M') := by
  refine CT.of hfl rfl (Nat.le_of_ble_eq_true rfl) ?_
  intro pp ee ss mm ar bw mt cd C hgX hr hini
  refine V.eLo (lo' := [(0, .ref mb), (1, .int x)]) rfl ?_
  refine r_aload_n C 0 dX12_isPerson_0 rfl rfl ?_
  refine r_iload_n C 1 dX12_isPerson_1 rfl rfl ?_
  refine r_i2l C dX12_isPerson_2 ?_
  refine r_lconst C (v := lN 0) dX12_isPerson_3 (by decide) ?_
  refine r_ldc2 C (v := 5) kl_X12_189 dX12_isPerson_4 ?_
  refine V.el (y := lN 5) (by decide) ?_
  refine r_callV C hgX (ci := 14) ml_X12_191 im_X12_in se_X12_in rfl rfl hm.k (c_X12_in l hfl G M mb x.toInt64 (lN 0) (lN 5)) rfl (Nat.le_of_ble_eq_true rfl) ⟨Nat.le_of_ble_eq_true rfl, Nat.le_of_ble_eq_true rfl⟩ ⟨Nat.le_of_ble_eq_true rfl, Nat.le_of_ble_eq_true rfl⟩ dX12_isPerson_7 rfl ?_
  rintro _ _ ⟨rfl, rfl⟩
  refine V.eSt (st' := [.int (bI (decide ((lN 0) ≤ x.toInt64 ∧ x.toInt64 ≤ (lN 5))))]) rfl ?_
  exact r_zret C hr (bI_01 _) (⟨congrArg (fun z => some (Value.int (bI z))) (rng_in x 6 5 rfl), rfl⟩) (by first | exact Nat.zero_le _ | decide) (by first | exact Nat.zero_le _ | decide) dX12_isPerson_10
set_option maxHeartbeats 4000000 in
set_option maxRecDepth 100000 in
theorem c_X12_isPlace (l : Launch) (hfl : l.flags = flags0) (G : gW) (M : Mem) (mb : Nat) (hm : MOK (mK M) (mN M) (mR M) mb) (x : Int32) : CT l yX12_isPlace cX12_isPlace 2 (some .boolean) 1 0 0 26 G M [.ref mb, .int x] (fun v M' => v = some (.int (bI (rng x 3))) ∧ M = M') := by
  refine CT.of hfl rfl (Nat.le_of_ble_eq_true rfl) ?_
  intro pp ee ss mm ar bw mt cd C hgX hr hini
  refine V.eLo (lo' := [(0, .ref mb), (1, .int x)]) rfl ?_
  refine r_aload_n C 0 dX12_isPlace_0 rfl rfl ?_
  refine r_iload_n C 1 dX12_isPlace_1 rfl rfl ?_
  refine r_i2l C dX12_isPlace_2 ?_
  refine r_lconst C (v := lN 0) dX12_isPlace_3 (by decide) ?_
  refine r_ldc2 C (v := 2) kl_X12_195 dX12_isPlace_4 ?_
  refine V.el (y := lN 2) (by decide) ?_
  refine r_callV C hgX (ci := 14) ml_X12_191 im_X12_in se_X12_in rfl rfl hm.k (c_X12_in l hfl G M mb x.toInt64 (lN 0) (lN 2)) rfl (Nat.le_of_ble_eq_true rfl) ⟨Nat.le_of_ble_eq_true rfl, Nat.le_of_ble_eq_true rfl⟩ ⟨Nat.le_of_ble_eq_true rfl, Nat.le_of_ble_eq_true rfl⟩ dX12_isPlace_7 rfl ?_
  rintro _ _ ⟨rfl, rfl⟩
  refine V.eSt (st' := [.int (bI (decide ((lN 0) ≤ x.toInt64 ∧ x.toInt64 ≤ (lN 2))))]) rfl ?_
  exact r_zret C hr (bI_01 _) (⟨congrArg (fun z => some (Value.int (bI z))) (rng_in x 3 2 rfl), rfl⟩) (by first | exact Nat.zero_le _ | decide) (by first | exact Nat.zero_le _ | decide) dX12_isPlace_10
set_option maxHeartbeats 4000000 in
set_option maxRecDepth 100000 in
theorem c_X12_isMonth (l : Launch) (hfl : l.flags = flags0) (G : gW) (M : Mem) (mb : Nat) (hm : MOK (mK M) (mN M) (mR M) mb) (x : Int32) : CT l yX12_isMonth cX12_isMonth 2 (some .boolean) 1 0 0 26 G M [.ref mb, .int x] (fun v M' => v = some (.int (bI (rng x 24))) ∧ M = M') := by
  refine CT.of hfl rfl (Nat.le_of_ble_eq_true rfl) ?_
  intro pp ee ss mm ar bw mt cd C hgX hr hini
  refine V.eLo (lo' := [(0, .ref mb), (1, .int x)]) rfl ?_
  refine r_aload_n C 0 dX12_isMonth_0 rfl rfl ?_
  refine r_iload_n C 1 dX12_isMonth_1 rfl rfl ?_
  refine r_i2l C dX12_isMonth_2 ?_
  refine r_lconst C (v := lN 0) dX12_isMonth_3 (by decide) ?_
  refine r_ldc2 C (v := 23) kl_X12_197 dX12_isMonth_4 ?_
  refine V.el (y := lN 23) (by decide) ?_
  refine r_callV C hgX (ci := 14) ml_X12_191 im_X12_in se_X12_in rfl rfl hm.k (c_X12_in l hfl G M mb x.toInt64 (lN 0) (lN 23)) rfl (Nat.le_of_ble_eq_true rfl) ⟨Nat.le_of_ble_eq_true rfl, Nat.le_of_ble_eq_true rfl⟩ ⟨Nat.le_of_ble_eq_true rfl, Nat.le_of_ble_eq_true rfl⟩ dX12_isMonth_7 rfl ?_
  rintro _ _ ⟨rfl, rfl⟩
  refine V.eSt (st' := [.int (bI (decide ((lN 0) ≤ x.toInt64 ∧ x.toInt64 ≤ (lN 23))))]) rfl ?_
  exact r_zret C hr (bI_01 _) (⟨congrArg (fun z => some (Value.int (bI z))) (rng_in x 24 23 rfl), rfl⟩) (by first | exact Nat.zero_le _ | decide) (by first | exact Nat.zero_le _ | decide) dX12_isMonth_10
set_option maxHeartbeats 4000000 in
set_option maxRecDepth 100000 in
theorem c_X12_isDay (l : Launch) (hfl : l.flags = flags0) (G : gW) (M : Mem) (mb : Nat) (hm : MOK (mK M) (mN M) (mR M) mb) (x : Int32) : CT l yX12_isDay cX12_isDay 2 (some .boolean) 1 0 0 26 G M [.ref mb, .int x] (fun v M' => v = some (.int (bI (rng x 720))) ∧ M = M') := by
  refine CT.of hfl rfl (Nat.le_of_ble_eq_true rfl) ?_
  intro pp ee ss mm ar bw mt cd C hgX hr hini
  refine V.eLo (lo' := [(0, .ref mb), (1, .int x)]) rfl ?_
  refine r_aload_n C 0 dX12_isDay_0 rfl rfl ?_
  refine r_iload_n C 1 dX12_isDay_1 rfl rfl ?_
  refine r_i2l C dX12_isDay_2 ?_
  refine r_lconst C (v := lN 0) dX12_isDay_3 (by decide) ?_
  refine r_ldc2 C (v := 719) kl_X12_199 dX12_isDay_4 ?_
  refine V.el (y := lN 719) (by decide) ?_
  refine r_callV C hgX (ci := 14) ml_X12_191 im_X12_in se_X12_in rfl rfl hm.k (c_X12_in l hfl G M mb x.toInt64 (lN 0) (lN 719)) rfl (Nat.le_of_ble_eq_true rfl) ⟨Nat.le_of_ble_eq_true rfl, Nat.le_of_ble_eq_true rfl⟩ ⟨Nat.le_of_ble_eq_true rfl, Nat.le_of_ble_eq_true rfl⟩ dX12_isDay_7 rfl ?_
  rintro _ _ ⟨rfl, rfl⟩
  refine V.eSt (st' := [.int (bI (decide ((lN 0) ≤ x.toInt64 ∧ x.toInt64 ≤ (lN 719))))]) rfl ?_
  exact r_zret C hr (bI_01 _) (⟨congrArg (fun z => some (Value.int (bI z))) (rng_in x 720 719 rfl), rfl⟩) (by first | exact Nat.zero_le _ | decide) (by first | exact Nat.zero_le _ | decide) dX12_isDay_10
