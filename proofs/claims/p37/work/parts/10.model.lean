/-! THE REFERENCE: its arrays lie behind it, one behind the other -/
def mrk : List Nat := [1, 2, 3, 4, 5, 6, 7, 8, 9, 0, 10, 11, 12, 0, 13, 14, 15, 0, 0, 0, 0, 0, 16, 17, 18, 19, 0, 20, 21, 22, 23, 24, 25, 26, 27, 28, 29, 30, 31, 32, 33, 34, 35, 36, 0, 37, 0, 38, 39, 40, 41, 0, 42, 43, 44, 45, 46, 47, 48, 49, 50, 51, 52, 53, 54, 55, 56, 0, 57, 58]
def mkd : List Nat := [20, 20, 20, 20, 20, 20, 20, 20, 20, 0, 20, 20, 20, 0, 20, 20, 20, 0, 0, 0, 0, 0, 20, 20, 20, 20, 0, 20, 21, 21, 20, 20, 20, 20, 20, 20, 20, 20, 20, 20, 20, 20, 20, 20, 0, 21, 0, 20, 20, 21, 20, 0, 21, 21, 20, 21, 21, 21, 21, 21, 21, 21, 21, 21, 21, 21, 21, 0, 21, 21]
def mln : List Nat := [10, 10, 10, 10, 10, 10, 7200, 7200, 7200, 0, 40, 40, 40, 0, 30, 30, 30, 0, 0, 0, 0, 0, 70, 70, 7, 6, 0, 6, 10, 6, 432, 72, 72, 144, 576, 576, 144, 144, 6, 6, 6, 6, 6, 6, 0, 144, 0, 144, 144, 144, 144, 0, 72, 72, 72, 72, 72, 72, 72, 72, 24, 24, 24, 24, 24, 144, 144, 0, 432, 432]
-- 0 cw, 1 cp, 2 cf, 3 ct, 4 ch, 5 cn, 6 told, 7 pays, 8 mins, 9 contracts, 10 sc, 11 sb, 12 sl, 13 shifts, 14 lc, 15 ld, 16 lt, 17 leaves, 18 rate, 19 carry, 20 term, 21 leftNow, 22 ew, 23 en, 24 el, 25 ep, 26 elements, 27 order, 28 pile, 29 comes, 30 bonus, 31 cr, 32 cc, 33 bn, 34 be, 35 bt, 36 st, 37 pt, 38 gw, 39 gm, 40 gr, 41 gt, 42 gp, 43 gk, 44 garnishments, 45 adv, 46 open, 47 pw, 48 pm, 49 pc, 50 pb, 51 payments, 52 ft, 53 fc, 54 corrected, 55 gross, 56 counted, 57 contr, 58 taxed, 59 tax, 60 pens, 61 match, 62 net, 63 taken, 64 payout, 65 elems, 66 gone, 67 thrown, 68 dues, 69 parts
/-- where field k of the reference at mb lies: an array's first cell, or the reference itself -/
def ma (mb k : Nat) : Nat := mb + mrk.getD k 0
/-- the shapes -/
def MOK (K N : Nat → Nat) (R : Nat → Nat → Option Nat) (mb : Nat) : Prop := K mb = 15 ∧ ∀ k, k < 70 → mkd.getD k 0 ≠ 0 → R mb k = some (ma mb k) ∧ K (ma mb k) = mkd.getD k 0 ∧ N (ma mb k) = mln.getD k 0
theorem MOK.k {K N : Nat → Nat} {R : Nat → Nat → Option Nat} {mb : Nat} (h : MOK K N R mb) : K mb = 14 + 1 := h.1
theorem MOK.r {K N : Nat → Nat} {R : Nat → Nat → Option Nat} {mb : Nat} (h : MOK K N R mb) (k : Nat) (hk : (decide (k < 70) && (mkd.getD k 0 != 0)) = true) : R mb k = some (ma mb k) := (h.2 k (by simp at hk; exact hk.1) (by simp at hk; simpa using hk.2)).1
theorem MOK.i {K N : Nat → Nat} {R : Nat → Nat → Option Nat} {mb : Nat} (h : MOK K N R mb) (k κ : Nat) (hk : (decide (k < 70) && (mkd.getD k 0 == κ) && (κ != 0)) = true) : K (ma mb k) = κ := by
  simp only [Bool.and_eq_true, decide_eq_true_eq, beq_iff_eq, bne_iff_ne] at hk
  rw [(h.2 k hk.1.1 (by rw [hk.1.2]; exact hk.2)).2.1]
  exact hk.1.2
theorem MOK.n {K N : Nat → Nat} {R : Nat → Nat → Option Nat} {mb : Nat} (h : MOK K N R mb) (k n : Nat) (hk : (decide (k < 70) && (mkd.getD k 0 != 0) && (mln.getD k 0 == n)) = true) : N (ma mb k) = n := by
  simp only [Bool.and_eq_true, decide_eq_true_eq, beq_iff_eq, bne_iff_ne] at hk
  rw [(h.2 k hk.1.1 hk.1.2).2.2]
  exact hk.2
theorem ma_ne {mb j k : Nat} (h : (mrk.getD j 0 == mrk.getD k 0) = false) : ma mb j ≠ ma mb k := by
  unfold ma
  have h2 := beq_eq_false_iff_ne.mp h
  omega
theorem ma_0 {mb j : Nat} (h : (mrk.getD j 0 == 0) = false) : ma mb j ≠ mb := by
  unfold ma
  have h2 := beq_eq_false_iff_ne.mp h
  omega
theorem rng_in (x : Int32) (n : Nat) (k : Int64) (hk : k.toInt + 1 = (n : Int)) : decide ((0 : Int64) ≤ x.toInt64 ∧ x.toInt64 ≤ k) = decide (0 ≤ x.toInt ∧ x.toInt < (n : Int)) := by
  apply decide_eq_decide.mpr
  rw [Int64.le_iff_toInt_le, Int64.le_iff_toInt_le, Int32.toInt_toInt64, show (0 : Int64).toInt = 0 from rfl]
  omega
/-- an int in a range from 0 -/
def rng (x : Int32) (n : Nat) : Bool := decide (0 ≤ x.toInt ∧ x.toInt < (n : Int))
theorem rng_t {x : Int32} {n : Nat} (h : rng x n = true) : ∃ j, j < n ∧ x = nI j := by
  unfold rng at h
  obtain ⟨h1, h2⟩ := of_decide_eq_true h
  have h3 : ¬ x < 0 := by rw [Int32.lt_iff_toInt_lt, Int32.toInt_zero]; omega
  obtain ⟨j, hj, rfl⟩ := nI_of h3
  rw [nI_toInt hj] at h2
  exact ⟨j, by omega, rfl⟩
