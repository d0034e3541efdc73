/-! THE REFERENCE: contracts, shifts, bases -/
def payD (τ : Mu) (c d : Nat) : Nat := un τ 7 (720 * c + (if un τ 3 c < d then un τ 3 c else if d < un τ 2 c then un τ 2 c else d))
def isOfN (τ : Mu) (c d : Nat) : Bool := decide (un τ 2 c ≤ d ∧ d ≤ un τ 3 c)
def isOfB (τ : Mu) (x y : Int32) : Bool := rng x (un τ 9 9) && decide ((un τ 2 x.toNatClampNeg : Int) ≤ y.toInt ∧ y.toInt ≤ un τ 3 x.toNatClampNeg)
theorem isOfB_N {τ : Mu} {c d : Nat} (hc : c < un τ 9 9) (h9 : un τ 9 9 ≤ 10) (hd : d < 2 ^ 31) : isOfB τ (nI c) (nI d) = isOfN τ c d := by
  unfold isOfB isOfN
  rw [rng_nI (by omega), decide_eq_true hc, nI_clamp (by omega), nI_toInt hd, Bool.true_and]
  exact decide_eq_decide.mpr ⟨fun z => by omega, fun z => by omega⟩
def rN (a b : Nat) : Nat := (2 * a + b) / (2 * b)
/-- rounding, as the reference has it -/
def dwnL (x y : Int64) : Int64 := if x - x / y * y < 0 then x / y - 1 else x / y
def rndL (x y : Int64) : Int64 := dwnL (2 * x + y) (2 * y)
theorem dwnL_N {a b : Nat} (ha : a < 2 ^ 63) (h0 : 0 < b) (hb : b < 2 ^ 63) : dwnL (lN a) (lN b) = lN (a / b) := by
  unfold dwnL
  rw [pk_lDiv ha h0 hb, lN_mul, lN_sub (Nat.div_mul_le_self a b), if_neg]
  rw [show (0 : Int64) = lN 0 from rfl, pk_lLT (by have := Nat.sub_le a (a / b * b); omega) (by decide)]
  omega
theorem rndL_N {a b : Nat} (ha : a < 2 ^ 61) (h0 : 0 < b) (hb : b < 2 ^ 61) : rndL (lN a) (lN b) = lN (rN a b) := by
  unfold rndL rN
  rw [show (2 : Int64) = lN 2 from rfl, lN_mul, lN_mul, lN_add, dwnL_N (by omega) (by omega) (by omega)]
def ovD (τ : Mu) (c w n : Nat) : Nat := sumN (fun d => un τ 8 (720 * c + d) - un τ 5 c) (7 * w) n
def ovA (τ : Mu) (c w n : Nat) : Nat := sumN (fun d => un τ 8 (720 * c + d)) (7 * w) n
def ovE (w : Nat) : Nat := min 720 (7 * w + 7) - 7 * w
def overN (τ : Mu) (c w : Nat) : Nat := max (ovD τ c w (ovE w)) (ovA τ c w (ovE w) - 5 * un τ 5 c)
def lastD (w : Nat) : Nat := if 7 * w + 6 ≤ 719 then 7 * w + 6 else 719
def hourN (τ : Mu) (c d : Nat) : Nat := if un τ 4 c = 1 then payD τ c d else rN (60 * payD τ c d) (30 * un τ 5 c)
def overP (τ : Mu) (c w : Nat) : Nat := rN (hourN τ c (lastD w) * overN τ c w) 120
def dayN (τ : Mu) (c d : Nat) : Nat := if un τ 4 c = 1 then un τ 8 (720 * c + d) * payD τ c d else if isOfN τ c d then payD τ c d else 0
def leaveP (τ : Mu) (lt : Nat → Nat) (c m k : Nat) : Nat := if un τ 14 k = c ∧ lt k = 1 ∧ un τ 15 k / 30 = m ∧ un τ 4 c = 1 then rN (un τ 5 c * payD τ c (un τ 15 k)) 60 else 0
def baseD (τ : Mu) (c m : Nat) : Nat := rN (sumN (dayN τ c) (30 * m) 30) (if un τ 4 c = 1 then 60 else 30)
def baseW (τ : Mu) (c m n : Nat) : Nat := sumN (fun w => if lastD w / 30 = m then overP τ c w else 0) 0 n
def baseN (τ : Mu) (lt : Nat → Nat) (c m : Nat) : Nat := baseD τ c m + baseW τ c m 103 + sumN (leaveP τ lt c m) 0 (un τ 17 17)
theorem payD_le {τ : Mu} (hw : WF τ) {c d : Nat} (hc : c < un τ 9 9) (hd : d < 720) : payD τ c d ≤ 1000000 := by
  have h9 := hw.nc.2
  have h2 := (hw.cf c hc).2
  have h3 := (hw.ct c hc).2
  exact (hw.py _ (by split; omega; split <;> omega)).2
theorem mins_le {τ : Mu} (hw : WF τ) {i : Nat} (hi : i < 7200) : un τ 8 i ≤ 57600 := by
  have h1 := (hw.mn i hi).2
  have h2 := hw.sh.2
  omega
theorem ovA_le {τ : Mu} (hw : WF τ) {c w n : Nat} (hc : c < 10) (hn : 7 * w + n ≤ 720) : ovA τ c w n ≤ n * 57600 := sumN_le fun i hi => mins_le hw (by omega)
theorem ovD_le {τ : Mu} (hw : WF τ) {c w n : Nat} (hc : c < 10) (hn : 7 * w + n ≤ 720) : ovD τ c w n ≤ n * 57600 := sumN_le fun i hi => Nat.le_trans (Nat.sub_le _ _) (mins_le hw (by omega))
theorem overN_le {τ : Mu} (hw : WF τ) {c w : Nat} (hc : c < 10) (hn : w < 103) : overN τ c w ≤ 403200 := by
  have h0 : ovE w ≤ 7 ∧ 7 * w + ovE w ≤ 720 := by unfold ovE; omega
  have h1 := ovA_le hw hc h0.2
  have h2 := ovD_le hw hc h0.2
  unfold overN
  omega
theorem rN_le {a b k : Nat} (hb : 0 < b) (h : a ≤ k * b) : rN a b ≤ k := by
  unfold rN
  apply Nat.le_of_lt_succ
  have e : (k + 1) * (2 * b) = 2 * (k * b) + 2 * b := by rw [Nat.add_mul, Nat.one_mul, Nat.mul_left_comm]
  rw [Nat.div_lt_iff_lt_mul (by omega)]
  show 2 * a + b < (k + 1) * (2 * b)
  omega
theorem lastD_lt (w : Nat) : lastD w < 720 := by unfold lastD; split <;> omega
theorem hourN_le {τ : Mu} (hw : WF τ) {c d : Nat} (hc : c < un τ 9 9) (hd : d < 720) : hourN τ c d ≤ 1000000 := by
  have h1 := payD_le hw hc hd
  have h2 := hw.cn0 c hc
  unfold hourN
  split
  · exact h1
  · refine rN_le (by omega) ?_
    have : 1000000 * 60 ≤ 1000000 * (30 * un τ 5 c) := Nat.mul_le_mul_left _ (by omega)
    omega
theorem overP_le {τ : Mu} (hw : WF τ) {c w : Nat} (hc : c < un τ 9 9) (hn : w < 103) : overP τ c w ≤ 3360000000 := by
  have h9 := hw.nc.2
  refine rN_le (by decide) ?_
  exact Nat.le_trans (Nat.mul_le_mul (hourN_le hw hc (lastD_lt w)) (overN_le hw (by omega) hn)) (by decide)
theorem dayN_le {τ : Mu} (hw : WF τ) {c d : Nat} (hc : c < un τ 9 9) (hd : d < 720) : dayN τ c d ≤ 57600000000 := by
  have h9 := hw.nc.2
  have h1 := payD_le hw hc hd
  have h2 : un τ 8 (720 * c + d) ≤ 57600 := mins_le hw (by omega)
  unfold dayN
  split
  · exact Nat.le_trans (Nat.mul_le_mul h2 h1) (by decide)
  · split <;> omega
theorem sumD_le {τ : Mu} (hw : WF τ) {c m n : Nat} (hc : c < un τ 9 9) (hn : m + n ≤ 720) : sumN (dayN τ c) m n ≤ n * 57600000000 := sumN_le fun i hi => dayN_le hw hc (by omega)

set_option maxHeartbeats 4000000 in
set_option maxRecDepth 100000 in
theorem c_X12_thrown (l : Launch) (hfl : l.flags = flags0) (G : gW) (M : Mem) (mb : Nat) (hm : MOK (mK M) (mN M) (mR M) mb) : CT l yX12_thrown cX12_thrown 1 (some .int) 0 0 0 0 G M [.ref mb] (fun v M' => v = some (.int (mI M mb 67)) ∧ M = M') := by
  refine CT.of hfl rfl (Nat.le_of_ble_eq_true rfl) ?_
  intro pp ee ss mm ar bw mt cd C hgX hr hini
  refine V.eLo (lo' := [(0, .ref mb)]) rfl ?_
  refine r_aload_n C 0 dX12_thrown_0 rfl rfl ?_
  refine r_getI C fl_X12_185 rfl hm.k dX12_thrown_1 ?_
  exact r_iret C hr (⟨rfl, rfl⟩) (by first | exact Nat.zero_le _ | decide) (by first | exact Nat.zero_le _ | decide) dX12_thrown_4
set_option maxHeartbeats 4000000 in
set_option maxRecDepth 100000 in
theorem c_X12_isOf (l : Launch) (hfl : l.flags = flags0) (G : gW) (M : Mem) (mb : Nat) (τ : Mu) (hm : MOK (mK M) (mN M) (mR M) mb) (ht : TE (mI M) (mL M) mb τ) (hw : WF τ) (x y : Int32) : CT l yX12_isOf cX12_isOf 3 (some .boolean) 2 0 0 47 G M [.ref mb, .int x, .int y] (fun v M' => v = some (.int (bI (isOfB τ x y))) ∧ M = M') := by
  refine CT.of hfl rfl (Nat.le_of_ble_eq_true rfl) ?_
  intro pp ee ss mm ar bw mt cd C hgX hr hini
  have hnc := hw.nc.2
  have hsh := hw.sh.2
  have hnl := hw.nl.2
  have hne := hw.ne.2
  have hng := hw.ng.2
  have hop := hw.op.2
  have hnp := hw.np.2
  refine V.eLo (lo' := [(0, .ref mb), (1, .int x), (2, .int y)]) rfl ?_
  refine r_aload_n C 0 dX12_isOf_0 rfl rfl ?_
  refine r_iload_n C 1 dX12_isOf_1 rfl rfl ?_
  refine r_callV C hgX (ci := 14) ml_X12_204 im_X12_isContract se_X12_isContract rfl rfl hm.k (c_X12_isContract l hfl G M mb τ hm ht hw x) rfl (Nat.le_of_ble_eq_true rfl) ⟨Nat.le_of_ble_eq_true rfl, Nat.le_of_ble_eq_true rfl⟩ ⟨Nat.le_of_ble_eq_true rfl, Nat.le_of_ble_eq_true rfl⟩ dX12_isOf_2 rfl ?_
  rintro _ _ ⟨rfl, rfl⟩
  refine V.eSt (st' := [.int (bI (rng x (un τ 9 9)))]) rfl ?_
  refine r_if_eqB C (t := 35) dX12_isOf_5 (by decide) (fun c5 => ?_) (fun c5 => ?_)
  · skip
    refine r_iconst C (v := nI 0) dX12_isOf_35 (by decide) ?_
    exact r_zret C hr (by decide) (⟨by rw [show isOfB τ x y = false by unfold isOfB; rw [c5]; rfl]; rfl, rfl⟩) (by first | exact Nat.zero_le _ | decide) (by first | exact Nat.zero_le _ | decide) dX12_isOf_36
  · skip
    obtain ⟨c, hc, rfl⟩ := rng_t c5
    refine r_aload_n C 0 dX12_isOf_8 rfl rfl ?_
    refine r_iload_n C 2 dX12_isOf_9 rfl rfl ?_
    refine r_i2l C dX12_isOf_10 ?_
    refine r_aload_n C 0 dX12_isOf_11 rfl rfl ?_
    refine r_getR C (b := (ma mb 2)) fl_X12_16 rfl hm.k (hm.r 2 rfl) dX12_isOf_12 ?_
    refine r_iload_n C 1 dX12_isOf_15 rfl rfl ?_
    refine r_ialoadN C (hm.i 2 20 rfl) (hm.n 2 10 rfl) (by omega) (by omega) dX12_isOf_16 ?_
    refine V.ei (y := nI (un τ 2 c)) ((ht.i 2 rfl _).trans (hw.cf c (by omega)).1) ?_
    have hb0 := (hw.cf c (by omega)).2
    refine r_i2lN C (by omega) dX12_isOf_17 ?_
    refine r_aload_n C 0 dX12_isOf_18 rfl rfl ?_
    refine r_getR C (b := (ma mb 3)) fl_X12_19 rfl hm.k (hm.r 3 rfl) dX12_isOf_19 ?_
    refine r_iload_n C 1 dX12_isOf_22 rfl rfl ?_
    refine r_ialoadN C (hm.i 3 20 rfl) (hm.n 3 10 rfl) (by omega) (by omega) dX12_isOf_23 ?_
    refine V.ei (y := nI (un τ 3 c)) ((ht.i 3 rfl _).trans (hw.ct c (by omega)).1) ?_
    have hb1 := (hw.ct c (by omega)).2
    refine r_i2lN C (by omega) dX12_isOf_24 ?_
    refine r_callV C hgX (ci := 14) ml_X12_191 im_X12_in se_X12_in rfl rfl hm.k (c_X12_in l hfl G M mb y.toInt64 (lN (un τ 2 c)) (lN (un τ 3 c))) rfl (Nat.le_of_ble_eq_true rfl) ⟨Nat.le_of_ble_eq_true rfl, Nat.le_of_ble_eq_true rfl⟩ ⟨Nat.le_of_ble_eq_true rfl, Nat.le_of_ble_eq_true rfl⟩ dX12_isOf_25 rfl ?_
    rintro _ _ ⟨rfl, rfl⟩
    refine V.eSt (st' := [.int (bI (decide ((lN (un τ 2 c)) ≤ y.toInt64 ∧ y.toInt64 ≤ (lN (un τ 3 c)))))]) rfl ?_
    rw [show decide ((lN (un τ 2 c)) ≤ y.toInt64 ∧ y.toInt64 ≤ lN (un τ 3 c)) = isOfB τ (nI c) y by unfold isOfB; rw [c5, Bool.true_and, nI_clamp (by omega)]; refine decide_eq_decide.mpr ?_; rw [Int64.le_iff_toInt_le, Int64.le_iff_toInt_le, Int32.toInt_toInt64, pk_lT (by omega), pk_lT (by omega)]]
    refine r_if_eqB C (t := 35) dX12_isOf_28 (by decide) (fun c28 => ?_) (fun c28 => ?_)
    · skip
      refine r_iconst C (v := nI 0) dX12_isOf_35 (by decide) ?_
      exact r_zret C hr (by decide) (⟨by rw [c28]; rfl, rfl⟩) (by first | exact Nat.zero_le _ | decide) (by first | exact Nat.zero_le _ | decide) dX12_isOf_36
    · skip
      refine r_iconst C (v := nI 1) dX12_isOf_31 (by decide) ?_
      refine r_goto C (t := 36) dX12_isOf_32 (by decide) ?_
      exact r_zret C hr (by decide) (⟨by rw [c28]; rfl, rfl⟩) (by first | exact Nat.zero_le _ | decide) (by first | exact Nat.zero_le _ | decide) dX12_isOf_36
set_option maxHeartbeats 4000000 in
set_option maxRecDepth 100000 in
theorem c_X12_down (l : Launch) (hfl : l.flags = flags0) (G : gW) (M : Mem) (mb : Nat) (x y : Int64) (hy : ¬ y = 0) : CT l yX12_down cX12_down 7 (some .long) 0 0 0 0 G M [.ref mb, .long x, .long y] (fun v M' => v = some (.long (dwnL x y)) ∧ M = M') := by
  refine CT.of hfl rfl (Nat.le_of_ble_eq_true rfl) ?_
  intro pp ee ss mm ar bw mt cd C hgX hr hini
  refine V.eLo (lo' := [(0, .ref mb), (1, .long x), (3, .long y)]) rfl ?_
  refine r_lload_n C 1 dX12_down_0 rfl rfl ?_
  refine r_lload_n C 2 dX12_down_1 rfl rfl ?_
  refine r_ldiv C dX12_down_2 (hy) ?_
  refine V.topl (fun v1 ev1 => ?_)
  refine r_lstore C (lo' := [(5, .long v1), (0, .ref mb), (1, .long x), (3, .long y)]) dX12_down_3 (by decide) rfl ?_
  refine r_lload_n C 2 dX12_down_5 rfl rfl ?_
  refine r_lload_n C 3 dX12_down_6 rfl rfl ?_
  refine r_lrem C dX12_down_7 (hy) ?_
  refine r_lconst C (v := lN 0) dX12_down_8 (by decide) ?_
  refine r_lcmp_ge C (t := 20) dX12_down_9 dX12_down_10 (by decide) (fun c10 => ?_) (fun c10 => ?_)
  · skip
    refine r_lload C 0 dX12_down_20 rfl ?_
    exact r_lret C hr (⟨by unfold dwnL; rw [if_neg (by first | exact c10 | (rw [show (0 : Int64) = lN 0 from rfl]; simp only [Int64.lt_iff_toInt_lt, Int64.le_iff_toInt_le] at *; omega))]; first | rfl | (subst_vars; rfl), rfl⟩) (by first | exact Nat.zero_le _ | decide) (by first | exact Nat.zero_le _ | decide) dX12_down_22
  · skip
    refine r_lload C 0 dX12_down_13 rfl ?_
    refine r_lconst C (v := lN 1) dX12_down_15 (by decide) ?_
    refine r_lsub C dX12_down_16 ?_
    refine r_goto C (t := 22) dX12_down_17 (by decide) ?_
    exact r_lret C hr (⟨by unfold dwnL; rw [if_pos (by first | exact c10 | (rw [show (0 : Int64) = lN 0 from rfl]; simp only [Int64.lt_iff_toInt_lt, Int64.le_iff_toInt_le] at *; omega))]; first | rfl | (subst_vars; rfl), rfl⟩) (by first | exact Nat.zero_le _ | decide) (by first | exact Nat.zero_le _ | decide) dX12_down_22
set_option maxHeartbeats 4000000 in
set_option maxRecDepth 100000 in
theorem c_X12_round (l : Launch) (hfl : l.flags = flags0) (G : gW) (M : Mem) (mb : Nat) (hm : MOK (mK M) (mN M) (mR M) mb) (x y : Int64) (hy : ¬ 2 * y = 0) : CT l yX12_round cX12_round 5 (some .long) 1 0 0 26 G M [.ref mb, .long x, .long y] (fun v M' => v = some (.long (rndL x y)) ∧ M = M') := by
  refine CT.of hfl rfl (Nat.le_of_ble_eq_true rfl) ?_
  intro pp ee ss mm ar bw mt cd C hgX hr hini
  refine V.eLo (lo' := [(0, .ref mb), (1, .long x), (3, .long y)]) rfl ?_
  refine r_aload_n C 0 dX12_round_0 rfl rfl ?_
  refine r_ldc2 C (v := 2) kl_X12_195 dX12_round_1 ?_
  refine V.el (y := lN 2) (by decide) ?_
  refine r_lload_n C 1 dX12_round_4 rfl rfl ?_
  refine r_lmul C dX12_round_5 ?_
  refine r_lload_n C 2 dX12_round_6 rfl rfl ?_
  refine r_ladd C dX12_round_7 ?_
  refine r_ldc2 C (v := 2) kl_X12_195 dX12_round_8 ?_
  refine V.el (y := lN 2) (by decide) ?_
  refine r_lload_n C 2 dX12_round_11 rfl rfl ?_
  refine r_lmul C dX12_round_12 ?_
  refine r_callV C hgX (ci := 14) ml_X12_208 im_X12_down se_X12_down rfl rfl hm.k (c_X12_down l hfl G M mb (((lN 2) * x) + y) ((lN 2) * y) (hy)) rfl (Nat.le_of_ble_eq_true rfl) ⟨Nat.le_of_ble_eq_true rfl, Nat.le_of_ble_eq_true rfl⟩ ⟨Nat.le_of_ble_eq_true rfl, Nat.le_of_ble_eq_true rfl⟩ dX12_round_13 rfl ?_
  rintro _ _ ⟨rfl, rfl⟩
  refine V.eSt (st' := [.long (dwnL (((lN 2) * x) + y) ((lN 2) * y))]) rfl ?_
  exact r_lret C hr (⟨rfl, rfl⟩) (by first | exact Nat.zero_le _ | decide) (by first | exact Nat.zero_le _ | decide) dX12_round_16
set_option maxHeartbeats 4000000 in
set_option maxRecDepth 100000 in
theorem c_X12_payOn (l : Launch) (hfl : l.flags = flags0) (G : gW) (M : Mem) (mb : Nat) (τ : Mu) (hm : MOK (mK M) (mN M) (mR M) mb) (ht : TE (mI M) (mL M) mb τ) (hw : WF τ) (c d : Nat) (hc : c < un τ 9 9) (hd : d < 720) : CT l yX12_payOn cX12_payOn 3 (some .long) 0 0 0 0 G M [.ref mb, .int (nI c), .int (nI d)] (fun v M' => v = some (.long (lN (payD τ c d))) ∧ M = M') := by
  refine CT.of hfl rfl (Nat.le_of_ble_eq_true rfl) ?_
  intro pp ee ss mm ar bw mt cd C hgX hr hini
  have hnc := hw.nc.2
  have hsh := hw.sh.2
  have hnl := hw.nl.2
  have hne := hw.ne.2
  have hng := hw.ng.2
  have hop := hw.op.2
  have hnp := hw.np.2
  refine V.eLo (lo' := [(0, .ref mb), (1, .int (nI c)), (2, .int (nI d))]) rfl ?_
  refine r_aload_n C 0 dX12_payOn_0 rfl rfl ?_
  refine r_getR C (b := (ma mb 7)) fl_X12_31 rfl hm.k (hm.r 7 rfl) dX12_payOn_1 ?_
  refine r_sipush C (v := nI 720) dX12_payOn_4 (by decide) ?_
  refine r_iload_n C 1 dX12_payOn_7 rfl rfl ?_
  refine r_imulN C dX12_payOn_8 ?_
  refine r_iload_n C 2 dX12_payOn_9 rfl rfl ?_
  refine r_aload_n C 0 dX12_payOn_10 rfl rfl ?_
  refine r_getR C (b := (ma mb 3)) fl_X12_19 rfl hm.k (hm.r 3 rfl) dX12_payOn_11 ?_
  refine r_iload_n C 1 dX12_payOn_14 rfl rfl ?_
  refine r_ialoadN C (hm.i 3 20 rfl) (hm.n 3 10 rfl) (by omega) (by omega) dX12_payOn_15 ?_
  refine V.ei (y := nI (un τ 3 c)) ((ht.i 3 rfl _).trans (hw.ct c (by omega)).1) ?_
  have hb0 := (hw.ct c (by omega)).2
  refine r_icmp_leN C (t := 28) (by omega) (by omega) dX12_payOn_16 (by decide) (fun c16 => ?_) (fun c16 => ?_)
  · skip
    refine r_iload_n C 2 dX12_payOn_28 rfl rfl ?_
    refine r_aload_n C 0 dX12_payOn_29 rfl rfl ?_
    refine r_getR C (b := (ma mb 2)) fl_X12_16 rfl hm.k (hm.r 2 rfl) dX12_payOn_30 ?_
    refine r_iload_n C 1 dX12_payOn_33 rfl rfl ?_
    refine r_ialoadN C (hm.i 2 20 rfl) (hm.n 2 10 rfl) (by omega) (by omega) dX12_payOn_34 ?_
    refine V.ei (y := nI (un τ 2 c)) ((ht.i 2 rfl _).trans (hw.cf c (by omega)).1) ?_
    have hb1 := (hw.cf c (by omega)).2
    refine r_icmp_geN C (t := 47) (by omega) (by omega) dX12_payOn_35 (by decide) (fun c35 => ?_) (fun c35 => ?_)
    · skip
      refine r_iload_n C 2 dX12_payOn_47 rfl rfl ?_
      refine r_iaddN C dX12_payOn_48 ?_
      refine r_ialoadN C (hm.i 7 20 rfl) (hm.n 7 7200 rfl) (by omega) (by omega) dX12_payOn_49 ?_
      refine V.ei (y := nI (un τ 7 (720 * c + d))) ((ht.i 7 rfl _).trans (hw.py (720 * c + d) (by omega)).1) ?_
      have hb2 := (hw.py (720 * c + d) (by omega)).2
      refine r_i2lN C (by omega) dX12_payOn_50 ?_
      exact r_lret C hr (⟨by unfold payD; simp only [if_neg (show ¬ un τ 3 c < d by omega), if_neg (show ¬ d < un τ 2 c by omega)], rfl⟩) (by first | exact Nat.zero_le _ | decide) (by first | exact Nat.zero_le _ | decide) dX12_payOn_51
    · skip
      refine r_aload_n C 0 dX12_payOn_38 rfl rfl ?_
      refine r_getR C (b := (ma mb 2)) fl_X12_16 rfl hm.k (hm.r 2 rfl) dX12_payOn_39 ?_
      refine r_iload_n C 1 dX12_payOn_42 rfl rfl ?_
      refine r_ialoadN C (hm.i 2 20 rfl) (hm.n 2 10 rfl) (by omega) (by omega) dX12_payOn_43 ?_
      refine V.ei (y := nI (un τ 2 c)) ((ht.i 2 rfl _).trans (hw.cf c (by omega)).1) ?_
      have hb3 := (hw.cf c (by omega)).2
      refine r_goto C (t := 48) dX12_payOn_44 (by decide) ?_
      refine r_iaddN C dX12_payOn_48 ?_
      refine r_ialoadN C (hm.i 7 20 rfl) (hm.n 7 7200 rfl) (by omega) (by omega) dX12_payOn_49 ?_
      refine V.ei (y := nI (un τ 7 (720 * c + un τ 2 c))) ((ht.i 7 rfl _).trans (hw.py (720 * c + un τ 2 c) (by omega)).1) ?_
      have hb4 := (hw.py (720 * c + un τ 2 c) (by omega)).2
      refine r_i2lN C (by omega) dX12_payOn_50 ?_
      exact r_lret C hr (⟨by unfold payD; simp only [if_neg (show ¬ un τ 3 c < d by omega), if_pos (show d < un τ 2 c by omega)], rfl⟩) (by first | exact Nat.zero_le _ | decide) (by first | exact Nat.zero_le _ | decide) dX12_payOn_51
  · skip
    refine r_aload_n C 0 dX12_payOn_19 rfl rfl ?_
    refine r_getR C (b := (ma mb 3)) fl_X12_19 rfl hm.k (hm.r 3 rfl) dX12_payOn_20 ?_
    refine r_iload_n C 1 dX12_payOn_23 rfl rfl ?_
    refine r_ialoadN C (hm.i 3 20 rfl) (hm.n 3 10 rfl) (by omega) (by omega) dX12_payOn_24 ?_
    refine V.ei (y := nI (un τ 3 c)) ((ht.i 3 rfl _).trans (hw.ct c (by omega)).1) ?_
    have hb5 := (hw.ct c (by omega)).2
    refine r_goto C (t := 48) dX12_payOn_25 (by decide) ?_
    refine r_iaddN C dX12_payOn_48 ?_
    refine r_ialoadN C (hm.i 7 20 rfl) (hm.n 7 7200 rfl) (by omega) (by omega) dX12_payOn_49 ?_
    refine V.ei (y := nI (un τ 7 (720 * c + un τ 3 c))) ((ht.i 7 rfl _).trans (hw.py (720 * c + un τ 3 c) (by omega)).1) ?_
    have hb6 := (hw.py (720 * c + un τ 3 c) (by omega)).2
    refine r_i2lN C (by omega) dX12_payOn_50 ?_
    exact r_lret C hr (⟨by unfold payD; simp only [if_pos (show un τ 3 c < d by omega)], rfl⟩) (by first | exact Nat.zero_le _ | decide) (by first | exact Nat.zero_le _ | decide) dX12_payOn_51
