/-! THE REFERENCE: contributions, taxes -/
def sumL (f : Nat → Int64) : Nat → Int64
  | 0 => 0
  | n + 1 => sumL f n + f n
theorem sumL_cg {f g : Nat → Int64} : ∀ {n : Nat}, (∀ i, i < n → f i = g i) → sumL f n = sumL g n
  | 0, _ => rfl
  | n + 1, h => by show sumL f n + f n = sumL g n + g n; rw [sumL_cg (n := n) (fun i hi => h i (by omega)), h n (by omega)]
def mnL (a b : Int64) : Int64 := if a < b then a else b
def pzL (a : Int64) : Int64 := if lN 0 < a then a else lN 0
def ceilN (τ : Mu) (pl m : Nat) : Nat := match lastO τ 0 (24 * pl) m with | none => 0 | some k => un τ 32 (24 * pl + k)
def crN (τ : Mu) (pl m : Nat) : Nat := match lastO τ 0 (24 * pl) m with | none => 0 | some k => un τ 31 (24 * pl + k)
def stN (τ : Mu) (p m : Nat) : Nat := match lastO τ 1 (24 * p) m with | none => 0 | some k => un τ 36 (24 * p + k)
def ptN (τ : Mu) (p m : Nat) : Nat := match lastO τ 2 (24 * p) m with | none => 0 | some k => un τ 37 (24 * p + k)
def ctM (τ : Mu) (pl m : Nat) (a b : Int64) : Int64 := pzL (mnL a (lN (ceilN τ pl m)) - b)
def dueM (τ : Mu) (p pl m : Nat) (a : Int64) : Int64 := yearL τ (48 * pl + 24 * stN τ p m) m (pzL a * lN 12 / lN (m % 12 + 1)) * lN (m % 12 + 1) / lN 12
theorem hasB0 {τ : Mu} (hw : WF τ) {a k : Nat} (ha : a + k < 72) (h : hasB τ 0 a k = true) : okN τ 31 (a + k) 500 := by
  have h1 : 0 ≤ τ.1 31 (a + k) := of_decide_eq_true h
  rcases hw.cr _ ha with h2 | h2
  · rw [h2] at h1; exact absurd h1 (by decide)
  · exact h2
theorem hasB1 {τ : Mu} (hw : WF τ) {a k : Nat} (ha : a + k < 144) (h : hasB τ 1 a k = true) : okN τ 36 (a + k) 1 := by
  have h1 : 0 ≤ τ.1 36 (a + k) := of_decide_eq_true h
  rcases hw.st _ ha with h2 | h2
  · rw [h2] at h1; exact absurd h1 (by decide)
  · exact h2
theorem hasB2 {τ : Mu} (hw : WF τ) {a k : Nat} (ha : a + k < 144) (h : hasB τ 2 a k = true) : okN τ 37 (a + k) 200 := by
  have h1 : 0 ≤ τ.1 37 (a + k) := of_decide_eq_true h
  rcases hw.pt _ ha with h2 | h2
  · rw [h2] at h1; exact absurd h1 (by decide)
  · exact h2
theorem crN_le {τ : Mu} (hw : WF τ) {pl m : Nat} (hp : pl < 3) (hm : m < 24) : crN τ pl m ≤ 500 := by
  unfold crN
  cases h : lastO τ 0 (24 * pl) m with
  | none => exact Nat.zero_le _
  | some k => exact (hasB0 hw (by have := (lastO_le h).1; omega) (lastO_le h).2).2
theorem ceilN_le {τ : Mu} (hw : WF τ) {pl m : Nat} (hp : pl < 3) (hm : m < 24) : ceilN τ pl m ≤ 100000000 := by
  unfold ceilN
  cases h : lastO τ 0 (24 * pl) m with
  | none => exact Nat.zero_le _
  | some k => exact (hw.cc _ (by have := (lastO_le h).1; omega)).2
theorem stN_le {τ : Mu} (hw : WF τ) {p m : Nat} (hp : p < 6) (hm : m < 24) : stN τ p m ≤ 1 := by
  unfold stN
  cases h : lastO τ 1 (24 * p) m with
  | none => exact Nat.zero_le _
  | some k => exact (hasB1 hw (by have := (lastO_le h).1; omega) (lastO_le h).2).2
theorem ptN_le {τ : Mu} (hw : WF τ) {p m : Nat} (hp : p < 6) (hm : m < 24) : ptN τ p m ≤ 200 := by
  unfold ptN
  cases h : lastO τ 2 (24 * p) m with
  | none => exact Nat.zero_le _
  | some k => exact (hasB2 hw (by have := (lastO_le h).1; omega) (lastO_le h).2).2

