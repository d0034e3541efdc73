/-! THE REFERENCE: contracts, shifts, bases -/
def payD (τ : Mu) (c d : Nat) : Nat := un τ 7 (720 * c + (if un τ 3 c < d then un τ 3 c else if d < un τ 2 c then un τ 2 c else d))
def isOfN (τ : Mu) (c d : Nat) : Bool := decide (un τ 2 c ≤ d ∧ d ≤ un τ 3 c)
def isOfB (τ : Mu) (x y : Int32) : Bool := rng x (un τ 9 9) && decide ((un τ 2 x.toNatClampNeg : Int) ≤ y.toInt ∧ y.toInt ≤ un τ 3 x.toNatClampNeg)
def rN (a b : Nat) : Nat := (2 * a + b) / (2 * b)
/-- rounding, as the reference has it -/
def dwnL (x y : Int64) : Int64 := if x - x / y * y < 0 then x / y - 1 else x / y
def rndL (x y : Int64) : Int64 := dwnL (2 * x + y) (2 * y)
theorem dwnL_N {a b : Nat} (ha : a < 2 ^ 63) (h0 : 0 < b) (hb : b < 2 ^ 63) : dwnL (lN a) (lN b) = lN (a / b) := by
  unfold dwnL
  rw [pk_lDiv ha h0 hb, lN_mul, lN_sub (Nat.div_mul_le_self a b), if_neg]
  rw [show (0 : Int64) = lN 0 from rfl, pk_lLT (by have := Nat.sub_le a (a / b * b); omega) (by decide)]
  omega
theorem rndL_N {a b : Nat} (ha : a < 2 ^ 61) (h0 : 0 < b) (hb : b < 2 ^ 61) : rndL (lN a) (lN b) = lN (rN a b) := by
  unfold rndL rN
  rw [show (2 : Int64) = lN 2 from rfl, lN_mul, lN_mul, lN_add, dwnL_N (by omega) (by omega) (by omega)]
def ovD (τ : Mu) (c w n : Nat) : Nat := sumN (fun d => un τ 8 (720 * c + d) - un τ 5 c) (7 * w) n
def ovA (τ : Mu) (c w n : Nat) : Nat := sumN (fun d => un τ 8 (720 * c + d)) (7 * w) n
def ovE (w : Nat) : Nat := min 720 (7 * w + 7) - 7 * w
def overN (τ : Mu) (c w : Nat) : Nat := max (ovD τ c w (ovE w)) (ovA τ c w (ovE w) - 5 * un τ 5 c)
def lastD (w : Nat) : Nat := if 7 * w + 6 ≤ 719 then 7 * w + 6 else 719
def hourN (τ : Mu) (c d : Nat) : Nat := if un τ 4 c = 1 then payD τ c d else rN (60 * payD τ c d) (30 * un τ 5 c)
def overP (τ : Mu) (c w : Nat) : Nat := rN (hourN τ c (lastD w) * overN τ c w) 120
def dayN (τ : Mu) (c d : Nat) : Nat := if un τ 4 c = 1 then un τ 8 (720 * c + d) * payD τ c d else if isOfN τ c d then payD τ c d else 0
def leaveP (τ : Mu) (lt : Nat → Nat) (c m k : Nat) : Nat := if un τ 14 k = c ∧ lt k = 1 ∧ un τ 15 k / 30 = m ∧ un τ 4 c = 1 then rN (un τ 5 c * payD τ c (un τ 15 k)) 60 else 0
def baseD (τ : Mu) (c m : Nat) : Nat := rN (sumN (dayN τ c) (30 * m) 30) (if un τ 4 c = 1 then 60 else 30)
def baseW (τ : Mu) (c m n : Nat) : Nat := sumN (fun w => if lastD w / 30 = m then overP τ c w else 0) 0 n
def baseN (τ : Mu) (lt : Nat → Nat) (c m : Nat) : Nat := baseD τ c m + baseW τ c m 103 + sumN (leaveP τ lt c m) 0 (un τ 17 17)
theorem payD_le {τ : Mu} (hw : WF τ) {c d : Nat} (hc : c < un τ 9 9) (hd : d < 720) : payD τ c d ≤ 1000000 := by
  have h9 := hw.nc.2
  have h2 := (hw.cf c hc).2
  have h3 := (hw.ct c hc).2
  exact (hw.py _ (by split; omega; split <;> omega)).2
theorem mins_le {τ : Mu} (hw : WF τ) {i : Nat} (hi : i < 7200) : un τ 8 i ≤ 57600 := by
  have h1 := (hw.mn i hi).2
  have h2 := hw.sh.2
  omega
theorem ovA_le {τ : Mu} (hw : WF τ) {c w n : Nat} (hc : c < 10) (hn : 7 * w + n ≤ 720) : ovA τ c w n ≤ n * 57600 := sumN_le fun i hi => mins_le hw (by omega)
theorem ovD_le {τ : Mu} (hw : WF τ) {c w n : Nat} (hc : c < 10) (hn : 7 * w + n ≤ 720) : ovD τ c w n ≤ n * 57600 := sumN_le fun i hi => Nat.le_trans (Nat.sub_le _ _) (mins_le hw (by omega))
theorem overN_le {τ : Mu} (hw : WF τ) {c w : Nat} (hc : c < 10) (hn : w < 103) : overN τ c w ≤ 403200 := by
  have h0 : ovE w ≤ 7 ∧ 7 * w + ovE w ≤ 720 := by unfold ovE; omega
  have h1 := ovA_le hw hc h0.2
  have h2 := ovD_le hw hc h0.2
  unfold overN
  omega
theorem rN_le {a b k : Nat} (hb : 0 < b) (h : a ≤ k * b) : rN a b ≤ k := by
  unfold rN
  apply Nat.le_of_lt_succ
  have e : (k + 1) * (2 * b) = 2 * (k * b) + 2 * b := by rw [Nat.add_mul, Nat.one_mul, Nat.mul_left_comm]
  rw [Nat.div_lt_iff_lt_mul (by omega)]
  show 2 * a + b < (k + 1) * (2 * b)
  omega
theorem lastD_lt (w : Nat) : lastD w < 720 := by unfold lastD; split <;> omega
theorem hourN_le {τ : Mu} (hw : WF τ) {c d : Nat} (hc : c < un τ 9 9) (hd : d < 720) : hourN τ c d ≤ 1000000 := by
  have h1 := payD_le hw hc hd
  have h2 := hw.cn0 c hc
  unfold hourN
  split
  · exact h1
  · refine rN_le (by omega) ?_
    have : 1000000 * 60 ≤ 1000000 * (30 * un τ 5 c) := Nat.mul_le_mul_left _ (by omega)
    omega
theorem overP_le {τ : Mu} (hw : WF τ) {c w : Nat} (hc : c < un τ 9 9) (hn : w < 103) : overP τ c w ≤ 3360000000 := by
  have h9 := hw.nc.2
  refine rN_le (by decide) ?_
  exact Nat.le_trans (Nat.mul_le_mul (hourN_le hw hc (lastD_lt w)) (overN_le hw (by omega) hn)) (by decide)
theorem dayN_le {τ : Mu} (hw : WF τ) {c d : Nat} (hc : c < un τ 9 9) (hd : d < 720) : dayN τ c d ≤ 57600000000 := by
  have h9 := hw.nc.2
  have h1 := payD_le hw hc hd
  have h2 : un τ 8 (720 * c + d) ≤ 57600 := mins_le hw (by omega)
  unfold dayN
  split
  · exact Nat.le_trans (Nat.mul_le_mul h2 h1) (by decide)
  · split <;> omega
theorem sumD_le {τ : Mu} (hw : WF τ) {c m n : Nat} (hc : c < un τ 9 9) (hn : m + n ≤ 720) : sumN (dayN τ c) m n ≤ n * 57600000000 := sumN_le fun i hi => dayN_le hw hc (by omega)

