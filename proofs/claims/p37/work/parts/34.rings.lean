/-! THE REFERENCE: the order of elements -/
theorem fst_none' {f : Nat → Bool} : ∀ {n : Nat}, fstN f n = none → ∀ k, k < n → f k = false
  | 0, _, k, hk => absurd hk (Nat.not_lt_zero _)
  | n + 1, h, k, hk => by
    have h1 : (match fstN f n with | some j => some j | none => if f n = true then some n else none) = none := h
    cases h2 : fstN f n with
    | some i => rw [h2] at h1; cases h1
    | none =>
      rw [h2] at h1
      by_cases z : f n = true
      · simp only [if_pos z] at h1; cases h1
      · by_cases e : k = n
        · subst e; simpa using z
        · exact fst_none' h2 k (by omega)
theorem fst_ex {f : Nat → Bool} {n k : Nat} (hk : k < n) (h : f k = true) : ∃ j, fstN f n = some j := by
  cases h2 : fstN f n with
  | some j => exact ⟨j, rfl⟩
  | none => rw [fst_none' h2 k hk] at h; cases h
def acyc (τ : Mu) : Prop := ∃ rk : Nat → Nat, ∀ e f, e < un τ 26 26 → f < un τ 26 26 → (needN τ e).testBit f = true → rk f < rk e
theorem fit_iff {τ : Mu} {D e : Nat} : fitB τ D e = true ↔ D.testBit e = false ∧ ∀ i, i < un τ 26 26 → (needN τ e).testBit i = true → D.testBit i = true := by
  unfold fitB
  rw [Bool.and_eq_true, Bool.not_eq_true', decide_eq_true_iff]
  constructor
  · rintro ⟨h1, h2⟩
    refine ⟨h1, fun i hi hn => ?_⟩
    have h3 : ((needN τ e &&& (2 ^ un τ 26 26 - 1)) &&& D).testBit i = (needN τ e &&& (2 ^ un τ 26 26 - 1)).testBit i := by rw [h2]
    rw [Nat.testBit_and, Nat.testBit_and, Nat.testBit_two_pow_sub_one, hn, decide_eq_true hi] at h3
    simpa using h3
  · rintro ⟨h1, h2⟩
    refine ⟨h1, Nat.eq_of_testBit_eq fun i => ?_⟩
    rw [Nat.testBit_and, Nat.testBit_and, Nat.testBit_two_pow_sub_one]
    by_cases hi : i < un τ 26 26
    · cases hn : (needN τ e).testBit i with
      | false => simp
      | true => rw [h2 i hi hn]; simp
    · simp [hi]
theorem fit_ex {τ : Mu} (ha : acyc τ) {D : Nat} (h : ∃ e, e < un τ 26 26 ∧ D.testBit e = false) : ∃ e, e < un τ 26 26 ∧ fitB τ D e = true := by
  obtain ⟨rk, hr⟩ := ha
  obtain ⟨e0, he0, hd0⟩ := h
  obtain ⟨r, ⟨e, he, hd, hre⟩, hmin⟩ := pk_least (fun r => ∃ e, e < un τ 26 26 ∧ D.testBit e = false ∧ rk e = r) ⟨rk e0, e0, he0, hd0, rfl⟩
  refine ⟨e, he, fit_iff.mpr ⟨hd, fun i hi hn => ?_⟩⟩
  cases hi2 : D.testBit i with
  | true => rfl
  | false => exact absurd ⟨i, hi, hi2, rfl⟩ (hmin (rk i) (by rw [← hre]; exact hr e i he hi hn))
def cntN (D n : Nat) : Nat := sumN (fun i => if D.testBit i = true then 1 else 0) 0 n
theorem cnt_full {D : Nat} : ∀ {n : Nat}, (∀ i, i < n → D.testBit i = true) → cntN D n = n
  | 0, _ => rfl
  | n + 1, h => by
    unfold cntN
    rw [sumN_1, if_pos (h n (by omega))]
    have := cnt_full (D := D) (n := n) (fun i hi => h i (by omega))
    unfold cntN at this
    omega
theorem cnt_ex {D n : Nat} (h : cntN D n < n) : ∃ i, i < n ∧ D.testBit i = false := by
  apply Classical.byContradiction
  intro hc
  have := cnt_full (D := D) (n := n) (fun i hi => by
    cases z : D.testBit i with
    | true => rfl
    | false => exact absurd ⟨i, hi, z⟩ hc)
  omega
theorem cnt_or {D e : Nat} (he : D.testBit e = false) : ∀ n, cntN (D ||| 2 ^ e) n = cntN D n + if e < n then 1 else 0
  | 0 => by rw [if_neg (by omega)]; rfl
  | n + 1 => by
    have ih := cnt_or he n
    unfold cntN at ih ⊢
    rw [sumN_1, sumN_1, ih, Nat.testBit_or, Nat.testBit_two_pow]
    by_cases z : e = n
    · subst z
      rw [he, if_neg (by omega : ¬ e < e), if_pos (by omega : e < e + 1)]
      simp
    · rw [show decide (e = n) = false from decide_eq_false z, Bool.or_false]
      by_cases y : e < n
      · rw [if_pos y, if_pos (by omega : e < n + 1)]; omega
      · rw [if_neg y, if_neg (by omega : ¬ e < n + 1)]; omega
/-- as long as not all are placed, one fits -/
theorem arr_ok {τ : Mu} (ha : acyc τ) (hn : un τ 26 26 ≤ 6) : ∀ k, k ≤ un τ 26 26 → cntN (arrD τ k) (un τ 26 26) = k ∧ arrD τ k < 2 ^ 6
  | 0, _ => ⟨by
      have : ∀ n, cntN 0 n = 0 := fun n => by
        induction n with
        | zero => rfl
        | succ n ih => unfold cntN at ih ⊢; rw [sumN_1, ih]; simp
      exact this _, by show 0 < _; decide⟩
  | k + 1, hk => by
    have ih := arr_ok ha hn k (by omega)
    obtain ⟨e, he, hf⟩ := fit_ex ha (cnt_ex (D := arrD τ k) (n := un τ 26 26) (by omega))
    obtain ⟨j, hj⟩ := fst_ex he hf
    have hs : arrS τ (arrD τ k) = j := by unfold arrS; rw [hj]
    have hj2 := fst_lt hj
    have hb := (fit_iff.mp hj2.2).1
    show cntN (arrD τ k ||| 2 ^ arrS τ (arrD τ k)) _ = _ ∧ arrD τ k ||| 2 ^ arrS τ (arrD τ k) < _
    rw [hs]
    refine ⟨by rw [cnt_or hb, if_pos hj2.1, ih.1], Nat.or_lt_two_pow ih.2 (Nat.pow_lt_pow_right (by decide) (by omega))⟩
theorem arr_s {τ : Mu} (ha : acyc τ) (hn : un τ 26 26 ≤ 6) {k : Nat} (hk : k < un τ 26 26) : fstN (fitB τ (arrD τ k)) (un τ 26 26) = some (arrS τ (arrD τ k)) ∧ arrS τ (arrD τ k) < un τ 26 26 ∧ (arrD τ k).testBit (arrS τ (arrD τ k)) = false := by
  have ih := arr_ok ha hn k (by omega)
  obtain ⟨e, he, hf⟩ := fit_ex ha (cnt_ex (D := arrD τ k) (n := un τ 26 26) (by omega))
  obtain ⟨j, hj⟩ := fst_ex he hf
  have hs : arrS τ (arrD τ k) = j := by unfold arrS; rw [hj]
  rw [hs]
  exact ⟨hj, (fst_lt hj).1, (fit_iff.mp (fst_lt hj).2).1⟩
def arU (τ : Mu) (n : Nat) : Mu := (fun k x => if k = 27 ∧ x < n then nI (arrS τ (arrD τ x)) else τ.1 k x, τ.2)
theorem needK_cg {τ τ' : Mu} (h22 : ∀ x, τ'.1 22 x = τ.1 22 x) (h23 : ∀ x, τ'.1 23 x = τ.1 23 x) (e : Nat) : ∀ k, needK τ' e k = needK τ e k
  | 0 => rfl
  | k + 1 => by
    have ih := needK_cg h22 h23 e k
    unfold needK un
    rw [ih, h22, h23]
theorem needN_cg {τ τ' : Mu} (h22 : ∀ x, τ'.1 22 x = τ.1 22 x) (h23 : ∀ x, τ'.1 23 x = τ.1 23 x) (h24 : ∀ x, τ'.1 24 x = τ.1 24 x) (e : Nat) : needN τ' e = needN τ e := by
  unfold needN
  rw [needK_cg h22 h23, show un τ' 24 e = un τ 24 e by unfold un; rw [h24]]
/-- the closure of what a draft asks for -/
def rgK (τ : Mu) (num s : Nat) : Nat → Nat
  | 0 => s
  | e + 1 => rgK τ num s e ||| (if (rgK τ num s e).testBit e = true ∧ e ≠ num ∧ e < un τ 26 26 then needN τ e else 0)
def rgR (τ : Mu) (num : Nat) : Nat → Nat
  | 0 => needN τ 6
  | r + 1 => rgK τ num (rgR τ num r) 6
theorem rgK_lt {τ : Mu} (hw : WFe τ) {num s : Nat} (hs : s < 2 ^ 6) : ∀ e, e ≤ 6 → rgK τ num s e < 2 ^ 6
  | 0, _ => hs
  | e + 1, he => by
    refine Nat.or_lt_two_pow (rgK_lt hw hs e (by omega)) ?_
    split
    · exact needN_lt hw (by omega)
    · decide
theorem rgR_lt {τ : Mu} (hw : WFe τ) {num : Nat} : ∀ r, rgR τ num r < 2 ^ 6
  | 0 => needN_lt hw (by decide)
  | r + 1 => rgK_lt hw (rgR_lt hw r) 6 (Nat.le_refl _)
theorem sh1 {n : Nat} (hn : n ≤ 6) : 2 ^ n ≤ 64 ∧ 1 ≤ 2 ^ n := ⟨Nat.le_trans (Nat.pow_le_pow_right (by decide) hn) (by decide), Nat.one_le_two_pow⟩
