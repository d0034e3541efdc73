/-! THE REFERENCE: the public methods -/
def inB (x : Int32) (a b : Int64) : Bool := decide (a ≤ x.toInt64 ∧ x.toInt64 ≤ b)
theorem inB_N {x : Int32} {a b : Nat} (ha : a < 2 ^ 31) (hb : b < 2 ^ 31) (h : inB x (lN a) (lN b) = true) : ∃ n, a ≤ n ∧ n ≤ b ∧ x = nI n := by
  have h1 := of_decide_eq_true h
  rw [Int64.le_iff_toInt_le, Int64.le_iff_toInt_le, Int32.toInt_toInt64, pk_lT (by omega), pk_lT (by omega)] at h1
  have h3 : ¬ x < 0 := by rw [Int32.lt_iff_toInt_lt, Int32.toInt_zero]; omega
  obtain ⟨j, hj, rfl⟩ := nI_of h3
  rw [nI_toInt hj] at h1
  exact ⟨j, by omega, by omega, rfl⟩
def cd1 (a : Bool) : Nat := if a = true then 0 else 1
def cd2 (a b : Bool) : Nat := if a = true then (if b = true then 0 else 2) else 1
def cd3 (a b c : Bool) : Nat := if a = true then (if b = true then (if c = true then 0 else 3) else 2) else 1
theorem cd1_0 {a : Bool} (h : cd1 a = 0) : a = true := by cases a <;> first | rfl | exact absurd h (by decide)
theorem cd2_0 {a b : Bool} (h : cd2 a b = 0) : a = true ∧ b = true := by cases a <;> cases b <;> first | exact ⟨rfl, rfl⟩ | exact absurd h (by decide)
theorem cd3_0 {a b c : Bool} (h : cd3 a b c = 0) : a = true ∧ b = true ∧ c = true := by cases a <;> cases b <;> cases c <;> first | exact ⟨rfl, rfl, rfl⟩ | exact absurd h (by decide)
theorem LTB.wi {mb : Nat} {M : Mem} (h : LTB M mb) (k x : Nat) (v : Int32) (hk : (mrk.getD 16 0 == mrk.getD k 0) = false) : LTB (wI M (ma mb k) x v) mb := by
  obtain ⟨lt, hl⟩ := h
  exact ⟨lt, fun j hj => by rw [show mI (wI M (ma mb k) x v) (ma mb 16) j = mI M (ma mb 16) j from up2_a _ _ (ma_ne hk)]; exact hl j hj⟩
theorem LTB.ws {mb : Nat} {M : Mem} (h : LTB M mb) (k : Nat) (v : Int32) : LTB (wI M mb k v) mb := by
  obtain ⟨lt, hl⟩ := h
  exact ⟨lt, fun j hj => by rw [show mI (wI M mb k v) (ma mb 16) j = mI M (ma mb 16) j from up2_a _ _ (ma_0 rfl)]; exact hl j hj⟩
def sI (τ : Mu) (k x : Nat) (v : Int32) : Mu := (up2 τ.1 k x v, τ.2)
def sL (τ : Mu) (k x : Nat) (v : Int64) : Mu := (τ.1, up2 τ.2 k x v)
def KD (R v : Option Value) : Prop := match R with
  | some (.int _) => ∃ z : Int32, v = some (.int z)
  | some (.long _) => ∃ z : Int64, v = some (.long z)
  | _ => v = none
theorem KD.i {x z : Int32} : KD (some (.int x)) (some (.int z)) := ⟨z, rfl⟩
theorem KD.l {x z : Int64} : KD (some (.long x)) (some (.long z)) := ⟨z, rfl⟩
theorem KD.n : KD none none := rfl
/-- a public call: its code, what it answers if the code is 0, and what is told then -/
def PP (mb : Nat) (M : Mem) (τ : Mu) (C : Nat) (U : Mu) (R : Option Value) (v : Option Value) (M' : Mem) : Prop := mI M' mb 67 = nI C ∧ mOut mb M M' ∧ LTB M' mb ∧ (C ≠ 0 → TE (mI M') (mL M') mb τ ∧ TEb (mI M') (mL M') mb τ) ∧ (C = 0 → v = R ∧ TE (mI M') (mL M') mb U ∧ TEb (mI M') (mL M') mb U) ∧ KD R v

