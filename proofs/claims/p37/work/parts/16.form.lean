/-! THE REFERENCE: formulas, tables -/
theorem nI_or {a b : Nat} (ha : a < 2 ^ 31) (hb : b < 2 ^ 31) : nI a ||| nI b = nI (a ||| b) := by
  apply Int32.toBitVec_inj.mp
  apply BitVec.eq_of_toNat_eq
  have h := Nat.or_lt_two_pow ha hb
  rw [Int32.toBitVec_or, BitVec.toNat_or, pk_tn (by omega), pk_tn (by omega), pk_tn (by omega)]
theorem nI_and {a b : Nat} (ha : a < 2 ^ 31) (hb : b < 2 ^ 31) : nI a &&& nI b = nI (a &&& b) := by
  apply Int32.toBitVec_inj.mp
  apply BitVec.eq_of_toNat_eq
  have h := Nat.and_lt_two_pow a hb
  rw [Int32.toBitVec_and, BitVec.toNat_and, pk_tn (by omega), pk_tn (by omega), pk_tn (by omega)]
theorem nI_m1 {a : Nat} (h : 1 ≤ a) : nI a + (-1) = nI (a - 1) := by
  obtain ⟨q, rfl⟩ : ∃ q, a = q + 1 := ⟨a - 1, by omega⟩
  exact pk_m1 q
theorem sh_l : ∀ n, n < 32 → ((nI n &&& 31).toBitVec.smod 32).toNat = n := by decide +kernel
theorem nI_shl {a k : Nat} (hk : k < 32) (h : a * 2 ^ k < 2 ^ 32) : nI a <<< (nI k &&& 31) = nI (a * 2 ^ k) := pk_shlN _ k (sh_l k hk) h
theorem nI_shl1 {k : Nat} (hk : k < 32) : nI 1 <<< (nI k &&& 31) = nI (2 ^ k) := by
  rw [nI_shl hk (by have : 2 ^ k < 2 ^ 32 := Nat.pow_lt_pow_right (by decide) hk; omega), Nat.one_mul]
theorem nI_shr {a k : Nat} (ha : a < 2 ^ 31) (hk : k < 32) : nI a >>> (nI k &&& 31) = nI (a / 2 ^ k) := pk_shrN ha _ k (sh_l k hk)
theorem p2_5 {k : Nat} (h : k ≤ 5) : 2 ^ k ≤ 32 := Nat.le_trans (Nat.pow_le_pow_right (by decide) h) (by decide)
/-- what is needed of formulas alone -/
def WFe (τ : Mu) : Prop := okN τ 26 26 6 ∧ (∀ e, e < 7 → okN τ 24 e 10) ∧ (∀ e k, e < 7 → k < un τ 24 e → okN τ 22 (10 * e + k) 9) ∧ ∀ e k, e < 7 → k < un τ 24 e → un τ 22 (10 * e + k) = 2 → okN τ 23 (10 * e + k) 5
theorem WF.e {τ : Mu} (h : WF τ) : WFe τ := ⟨h.ne, h.el, h.ew, h.en⟩
theorem needK_lt {τ : Mu} (hw : WFe τ) {e : Nat} (he : e < 7) : ∀ k, k ≤ un τ 24 e → needK τ e k < 2 ^ 6
  | 0, _ => by show 0 < _; decide
  | k + 1, h => by
    refine Nat.or_lt_two_pow (needK_lt hw he k (by omega)) ?_
    split
    · rename_i z
      have := p2_5 (hw.2.2.2 e k he (by omega) z).2
      omega
    · decide
theorem needN_lt {τ : Mu} (hw : WFe τ) {e : Nat} (he : e < 7) : needN τ e < 2 ^ 6 := needK_lt hw he _ (Nat.le_refl _)
theorem fmD_le (τ : Mu) (e : Nat) : ∀ k, fmD τ e k ≤ k
  | 0 => Nat.le_refl _
  | k + 1 => by have := fmD_le τ e k; unfold fmD; split <;> omega
def keptL (v : Int64) : Int64 := if lN 100000000 < v then lN 100000000 else if v < -100000000 then -100000000 else v
def joinL (what : Nat) (a b : Int64) : Int64 := if what = 4 then a + b else if what = 5 then a - b else if what = 6 then a * b else if what = 7 then rndL (a * b) (lN 1000) else if what = 8 then (if a < b then a else b) else (if b < a then a else b)
def singL (τ : Mu) (cm : Nat → Int64) (b h : Int64) (i : Nat) : Int64 := if un τ 22 i = 0 then b else if un τ 22 i = 1 then h else if un τ 22 i = 3 then (τ.1 23 i).toInt64 else if un τ 23 i < un τ 26 26 then cm (un τ 23 i) else lN 0
/-- the pile behind k words -/
def fmP (τ : Mu) (cm : Nat → Int64) (b h : Int64) (e : Nat) : Nat → Nat → Int64
  | 0 => fun _ => 0
  | k + 1 => if un τ 22 (10 * e + k) < 4 then vp_updL (fmP τ cm b h e k) (fmD τ e k) (keptL (singL τ cm b h (10 * e + k)))
    else vp_updL (fmP τ cm b h e k) (fmD τ e k - 2) (keptL (joinL (un τ 22 (10 * e + k)) (fmP τ cm b h e k (fmD τ e k - 2)) (fmP τ cm b h e k (fmD τ e k - 1))))
def formL (τ : Mu) (cm : Nat → Int64) (b h : Int64) (e : Nat) : Int64 := fmP τ cm b h e (un τ 24 e) 0
/-- the greatest below n -/
def lstN (f : Nat → Bool) : Nat → Option Nat
  | 0 => none
  | n + 1 => if f n = true then some n else lstN f n
theorem lst_lt {f : Nat → Bool} {j : Nat} : ∀ {n : Nat}, lstN f n = some j → j < n ∧ f j = true
  | 0, h => by cases h
  | n + 1, h => by
    have h1 : (if f n = true then some n else lstN f n) = some j := h
    by_cases z : f n = true
    · rw [if_pos z] at h1; cases h1; exact ⟨by omega, z⟩
    · rw [if_neg z] at h1; have := lst_lt h1; exact ⟨by omega, this.2⟩
def hasB (τ : Mu) (r at_ k : Nat) : Bool := if r = 0 then decide (0 ≤ τ.1 31 (at_ + k)) else if r = 1 then decide (0 ≤ τ.1 36 (at_ + k)) else if r = 2 then decide (0 ≤ τ.1 37 (at_ + k)) else decide (un τ 33 (at_ + k) ≠ 0)
def lastO (τ : Mu) (r at_ m : Nat) : Option Nat := lstN (hasB τ r at_) (m + 1)
theorem lastO_le {τ : Mu} {r at_ m k : Nat} (h : lastO τ r at_ m = some k) : k ≤ m ∧ hasB τ r at_ k = true := by have := lst_lt h; exact ⟨by omega, this.2⟩
def yrLow (τ : Mu) (i : Nat) : Nat → Nat
  | 0 => 0
  | b + 1 => un τ 34 (4 * i + b)
def yrP (τ : Mu) (i b : Nat) (x : Int64) : Int64 := (if x < lN (un τ 34 (4 * i + b)) then x else lN (un τ 34 (4 * i + b))) - lN (yrLow τ i b)
def yrT (τ : Mu) (i b : Nat) (x : Int64) : Int64 := if lN 0 < yrP τ i b x then yrP τ i b x * lN (un τ 35 (4 * i + b)) / lN 1000 else lN 0
def yrS (τ : Mu) (i : Nat) (x : Int64) : Nat → Int64
  | 0 => 0
  | b + 1 => yrS τ i x b + yrT τ i b x
def yearL (τ : Mu) (at_ m : Nat) (x : Int64) : Int64 := match lastO τ 3 at_ m with | none => 0 | some k => yrS τ (at_ + k) x (un τ 33 (at_ + k))

