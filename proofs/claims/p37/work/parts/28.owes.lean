/-! THE REFERENCE: the public methods, further -/
def inL (τ : Mu) (p m q w : Nat) : Int64 := if w = 0 then grL τ p m q else if w = 1 then coL τ p m q else taL τ p m q
def sumS (τ : Mu) (p m w : Nat) : Int64 := sumL (fun q => inL τ p m q w) 3
def slL (τ : Mu) (p m w : Nat) : Int64 := if w = 2 then pnL τ p m else if w = 4 then ntL τ p m else if w = 5 then ntL τ p m - lvL τ p m else if w = 6 then pyL τ p m else if w = 7 then mtL τ p m else sumS τ p m w
def inI (τ : Mu) (p m q : Nat) (w : Int32) : Int64 := if w = 0 then grL τ p m q else if w = nI 1 then coL τ p m q else taL τ p m q
def vsN (τ : Mu) (p n : Nat) : Nat := sumN (fun k => if lN 0 < pnL τ p k then 1 else 0) 0 n
/-- what payments leave of a sum -/
def pdL (τ : Mu) (p : Nat) (s0 : Int64) : Nat → Int64
  | 0 => s0
  | k + 1 => pdL τ p s0 k - (if un τ 47 k = p ∧ un τ 50 k = 0 then τ.2 49 k else lN 0)
def pmL (τ : Mu) (k w : Nat) : Int64 := if w = 0 then lN (un τ 47 k) else if w = 1 then lN (un τ 48 k) else if w = 2 then τ.2 49 k else lN (un τ 50 k)
def brB (τ : Mu) (a : Nat) (t : Int32) : Bool := decide (un τ 33 a ≠ 4) && (decide (un τ 33 a = 0) || decide (τ.1 34 (4 * a + un τ 33 a - 1) < t))
