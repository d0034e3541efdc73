/-! THE REFERENCE: the gross of a month -/
def boL (τ : Mu) (p m i : Nat) : Int64 := (τ.1 30 (72 * p + 3 * m + i)).toInt64
def bsN (τ : Mu) (p m n : Nat) : Nat := sumN (fun c => if un τ 0 c = p then baseN τ (ltN τ) c m else 0) 0 n
def hrC (τ : Mu) (c m n : Nat) : Nat := sumN (fun d => un τ 8 (720 * c + d)) (30 * m) n
def hrN (τ : Mu) (p m n : Nat) : Nat := sumN (fun c => if un τ 0 c = p then hrC τ c m 30 else 0) 0 n
def gbN (τ : Mu) (p m i n : Nat) : Nat := sumN (fun c => if un τ 0 c = p ∧ un τ 1 c = i then baseN τ (ltN τ) c m else 0) 0 n
/-- what the elements come to behind k of the order -/
def cmL (τ : Mu) (p m : Nat) : Nat → Nat → Int64
  | 0 => fun _ => lN 0
  | k + 1 => vp_updL (cmL τ p m k) (un τ 27 k) (if (un τ 25 (un τ 27 k)).testBit p = true then formL τ (cmL τ p m k) (lN (bsN τ p m (un τ 9 9))) (lN (hrN τ p m (un τ 9 9) / 60)) (un τ 27 k) else lN 0)
def gE (τ : Mu) (p m : Nat) : Nat → Int64
  | 0 => 0
  | k + 1 => gE τ p m k + cmL τ p m (k + 1) (un τ 27 k)
def grL (τ : Mu) (p m i : Nat) : Int64 := boL τ p m i + lN (gbN τ p m i (un τ 9 9)) + (if i = homeN τ p m then gE τ p m (un τ 26 26) else 0)
def elL (τ : Mu) (p m e : Nat) : Int64 := cmL τ p m (un τ 26 26) e
theorem hrC_le {τ : Mu} (hw : WF τ) {c m n : Nat} (hc : c < 10) (hn : 30 * m + n ≤ 720) : hrC τ c m n ≤ n * 57600 := sumN_le fun i hi => mins_le hw (by omega)
theorem hrN_le {τ : Mu} (hw : WF τ) {p m n : Nat} (hm : m < 24) (hn : n ≤ un τ 9 9) : hrN τ p m n ≤ n * 1728000 := sumN_le fun i hi => by
  have h9 := hw.nc.2
  show (if un τ 0 (0 + i) = p then hrC τ (0 + i) m 30 else 0) ≤ _
  split
  · exact hrC_le hw (n := 30) (by omega) (by omega)
  · omega
theorem fmP_cg {τ : Mu} (hne : un τ 26 26 ≤ 6) {cm cm' : Nat → Int64} (h : ∀ i, i < 6 → cm i = cm' i) (b hh : Int64) (e : Nat) : ∀ k, fmP τ cm b hh e k = fmP τ cm' b hh e k
  | 0 => rfl
  | k + 1 => by
    have hs : singL τ cm b hh (10 * e + k) = singL τ cm' b hh (10 * e + k) := by
      unfold singL
      by_cases z : un τ 23 (10 * e + k) < un τ 26 26
      · rw [h _ (by omega)]
      · rw [if_neg z, if_neg z]
    unfold fmP
    rw [fmP_cg hne h b hh e k, hs]
theorem formL_cg {τ : Mu} (hne : un τ 26 26 ≤ 6) {cm cm' : Nat → Int64} (h : ∀ i, i < 6 → cm i = cm' i) (b hh : Int64) (e : Nat) : formL τ cm b hh e = formL τ cm' b hh e := by
  unfold formL; rw [fmP_cg hne h b hh e]
theorem sumN_1 (f : Nat → Nat) (n : Nat) : sumN f 0 (n + 1) = sumN f 0 n + f n := by show _ + f (0 + n) = _; rw [Nat.zero_add]

