/-! THE REFERENCE: garnishments -/
def tkG (τ : Mu) (nt h left : Int64) (g : Nat) : Int64 := pzL (mnL (left - lN (un τ 43 g)) (mnL (dwnL (nt * lN (un τ 42 g)) (lN 1000)) (lN (un τ 41 g) - h)))
def lfK (τ : Mu) (p m : Nat) (nt : Int64) (had : Nat → Int64) (r : Nat) (l0 : Int64) : Nat → Int64
  | 0 => l0
  | g + 1 => if un τ 40 g = r ∧ un τ 38 g = p ∧ un τ 39 g ≤ m then lfK τ p m nt had r l0 g - tkG τ nt (had g) (lfK τ p m nt had r l0 g) g else lfK τ p m nt had r l0 g
def lfR (τ : Mu) (p m : Nat) (nt : Int64) (had : Nat → Int64) : Nat → Int64
  | 0 => nt
  | r + 1 => lfK τ p m nt had r (lfR τ p m nt had r) (un τ 44 44)
def goneF (τ : Mu) (p m : Nat) (nt : Int64) (had : Nat → Int64) (g : Nat) : Int64 :=
  if un τ 39 g ≤ m then had g + tkG τ nt (had g) (lfK τ p m nt had (un τ 40 g) (lfR τ p m nt had (un τ 40 g)) g) g else lN 0

