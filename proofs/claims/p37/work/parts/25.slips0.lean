/-! THE REFERENCE: the slips of a person -/
def allL (τ : Mu) (p m : Nat) : Int64 := grL τ p m 0 + grL τ p m 1 + grL τ p m 2
def pnL (τ : Mu) (p m : Nat) : Int64 := if allL τ p m < lN 0 then lN 0 else rndL (allL τ p m * lN (ptN τ p m)) (lN 1000)
def mtL (τ : Mu) (p m : Nat) : Int64 := if allL τ p m < lN 0 then lN 0 else rndL (allL τ p m * lN (if ptN τ p m < 50 then ptN τ p m else 50)) (lN 1000)
def gY (τ : Mu) (p q y j : Nat) : Int64 := sumL (fun i => grL τ p (y * 12 + i) q) j
def ctY (τ : Mu) (p q y : Nat) : Nat → Int64
  | 0 => 0
  | j + 1 => ctY τ p q y j + ctM τ q (y * 12 + j) (gY τ p q y j + grL τ p (y * 12 + j) q) (ctY τ p q y j)
def ctL (τ : Mu) (p m q : Nat) : Int64 := ctM τ q m (gY τ p q (m / 12) (m % 12) + grL τ p m q) (ctY τ p q (m / 12) (m % 12))
def coL (τ : Mu) (p m q : Nat) : Int64 := rndL (ctL τ p m q * lN (crN τ q m)) (lN 1000)
def txL (τ : Mu) (p m q : Nat) : Int64 := grL τ p m q - coL τ p m q - (if q = homeN τ p m then pnL τ p m else lN 0)
def txY (τ : Mu) (p q y j : Nat) : Int64 := sumL (fun i => txL τ p (y * 12 + i) q) j
def duL (τ : Mu) (p m q : Nat) : Int64 := dueM τ p q m (txY τ p q (m / 12) (m % 12) + txL τ p m q)
def taL (τ : Mu) (p m q : Nat) : Int64 := duL τ p m q - (if m % 12 = 0 then 0 else duL τ p (m - 1) q)
def ntK (τ : Mu) (p m : Nat) : Nat → Int64
  | 0 => allL τ p m - pnL τ p m
  | q + 1 => ntK τ p m q - (coL τ p m q + taL τ p m q)
def ntL (τ : Mu) (p m : Nat) : Int64 := ntK τ p m 3
def hadL (τ : Mu) (p : Nat) : Nat → Nat → Int64
  | 0 => fun _ => lN 0
  | m + 1 => goneF τ p m (ntL τ p m) (hadL τ p m)
def lvL (τ : Mu) (p m : Nat) : Int64 := lfR τ p m (ntL τ p m) (hadL τ p m) 10
def bkV (l o : Int64) : Int64 := if l ≤ lN 0 then lN 0 else if l < o then l else o
def owL (τ : Mu) (p : Nat) : Nat → Int64
  | 0 => lN 0
  | m + 1 => (owL τ p m + τ.2 45 (24 * p + m)) - bkV (lvL τ p m) (owL τ p m + τ.2 45 (24 * p + m))
def bkL (τ : Mu) (p m : Nat) : Int64 := bkV (lvL τ p m) (owL τ p m + τ.2 45 (24 * p + m))
def pyL (τ : Mu) (p m : Nat) : Int64 := lvL τ p m - bkL τ p m
def mon (f i : Nat) : Nat := if f ≤ 59 then i / 3 else if f ≤ 64 then i else i % 24
def mOnly (m mb : Nat) (M M' : Mem) : Prop := ∀ f, 55 ≤ f → f ≤ 66 → ∀ i, mon f i ≠ m → mL M' (ma mb f) i = mL M (ma mb f) i
theorem mOnly.mk {L : List Nat} {m mb : Nat} {M M' : Mem} (h : fOut L mb M M') (hL : ∀ f, 55 ≤ f → f ≤ 66 → L.contains f = true → ∀ i, mon f i ≠ m → mL M' (ma mb f) i = mL M (ma mb f) i) : mOnly m mb M M' := by
  intro f h1 h2 i hi
  cases hc : L.contains f with
  | true => exact hL f h1 h2 hc i hi
  | false => exact congrFun ((h.2.2.2.2 f (by omega) hc).2 ((show ∀ f, f < 67 → 55 ≤ f → mkd.getD f 0 ≠ 0 by decide) f (by omega) h1)).2 i
def LTB (M : Mem) (mb : Nat) : Prop := ∃ lt : Nat → Nat, ∀ k, k < 30 → mI M (ma mb 16) k = nI (lt k) ∧ lt k ≤ 1
