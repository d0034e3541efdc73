/-! WHAT WAS TOLD: the reference's arrays but its scratch, as numbers -/
abbrev Mu : Type := (Nat → Nat → Int32) × (Nat → Nat → Int64)
def told (k : Nat) : Bool := decide (k < 46) && !([16, 21, 28, 29, 55, 56, 57, 58, 59, 60, 61, 62, 63, 64, 65, 66, 67, 68, 69] : List Nat).contains k
/-- what was told lies in the memory -/
def TE (i : Nat → Nat → Int32) (j : Nat → Nat → Int64) (mb : Nat) (τ : Mu) : Prop := ∀ k, told k = true → if mkd.getD k 0 = 0 then i mb k = τ.1 k k else ((∀ x, i (ma mb k) x = τ.1 k x) ∧ ∀ x, j (ma mb k) x = τ.2 k x)
theorem TE.i {i : Nat → Nat → Int32} {j : Nat → Nat → Int64} {mb : Nat} {τ : Mu} (h : TE i j mb τ) (k : Nat) (hk : (told k && (mkd.getD k 0 != 0)) = true) (x : Nat) : i (ma mb k) x = τ.1 k x := by
  simp only [Bool.and_eq_true, bne_iff_ne] at hk
  have h2 := h k hk.1
  rw [if_neg hk.2] at h2
  exact h2.1 x
theorem TE.l {i : Nat → Nat → Int32} {j : Nat → Nat → Int64} {mb : Nat} {τ : Mu} (h : TE i j mb τ) (k : Nat) (hk : (told k && (mkd.getD k 0 != 0)) = true) (x : Nat) : j (ma mb k) x = τ.2 k x := by
  simp only [Bool.and_eq_true, bne_iff_ne] at hk
  have h2 := h k hk.1
  rw [if_neg hk.2] at h2
  exact h2.2 x
/-- the second half: the open month, payments, filings -/
def TEb (i : Nat → Nat → Int32) (j : Nat → Nat → Int64) (mb : Nat) (τ : Mu) : Prop := ∀ k, (decide (46 ≤ k) && decide (k < 55)) = true → if mkd.getD k 0 = 0 then i mb k = τ.1 k k else ((∀ x, i (ma mb k) x = τ.1 k x) ∧ ∀ x, j (ma mb k) x = τ.2 k x)
theorem TEb.i {i : Nat → Nat → Int32} {j : Nat → Nat → Int64} {mb : Nat} {τ : Mu} (h : TEb i j mb τ) (k : Nat) (hk : ((decide (46 ≤ k) && decide (k < 55)) && (mkd.getD k 0 != 0)) = true) (x : Nat) : i (ma mb k) x = τ.1 k x := by
  rw [Bool.and_eq_true, bne_iff_ne] at hk
  have h2 := h k hk.1
  rw [if_neg hk.2] at h2
  exact h2.1 x
theorem TEb.l {i : Nat → Nat → Int32} {j : Nat → Nat → Int64} {mb : Nat} {τ : Mu} (h : TEb i j mb τ) (k : Nat) (hk : ((decide (46 ≤ k) && decide (k < 55)) && (mkd.getD k 0 != 0)) = true) (x : Nat) : j (ma mb k) x = τ.2 k x := by
  rw [Bool.and_eq_true, bne_iff_ne] at hk
  have h2 := h k hk.1
  rw [if_neg hk.2] at h2
  exact h2.2 x
/-- the same for what agrees there -/
theorem TEb.cg {i : Nat → Nat → Int32} {j : Nat → Nat → Int64} {mb : Nat} {τ U : Mu} (h : TEb i j mb τ) (h46 : U.1 46 46 = τ.1 46 46) (h51 : U.1 51 51 = τ.1 51 51) (h47 : ∀ x, U.1 47 x = τ.1 47 x ∧ U.2 47 x = τ.2 47 x) (h48 : ∀ x, U.1 48 x = τ.1 48 x ∧ U.2 48 x = τ.2 48 x) (h49 : ∀ x, U.1 49 x = τ.1 49 x ∧ U.2 49 x = τ.2 49 x) (h50 : ∀ x, U.1 50 x = τ.1 50 x ∧ U.2 50 x = τ.2 50 x) (h52 : ∀ x, U.1 52 x = τ.1 52 x ∧ U.2 52 x = τ.2 52 x) (h53 : ∀ x, U.1 53 x = τ.1 53 x ∧ U.2 53 x = τ.2 53 x) (h54 : ∀ x, U.1 54 x = τ.1 54 x ∧ U.2 54 x = τ.2 54 x) : TEb i j mb U := by
  have ga : ∀ k, mkd.getD k 0 ≠ 0 → (decide (46 ≤ k) && decide (k < 55)) = true → (∀ x, U.1 k x = τ.1 k x ∧ U.2 k x = τ.2 k x) → (if mkd.getD k 0 = 0 then i mb k = U.1 k k else ((∀ x, i (ma mb k) x = U.1 k x) ∧ ∀ x, j (ma mb k) x = U.2 k x)) := by
    intro k z hk hu
    have h2 := h k hk
    rw [if_neg z] at h2 ⊢
    exact ⟨fun x => (h2.1 x).trans (hu x).1.symm, fun x => (h2.2 x).trans (hu x).2.symm⟩
  have gs : ∀ k, mkd.getD k 0 = 0 → (decide (46 ≤ k) && decide (k < 55)) = true → U.1 k k = τ.1 k k → (if mkd.getD k 0 = 0 then i mb k = U.1 k k else ((∀ x, i (ma mb k) x = U.1 k x) ∧ ∀ x, j (ma mb k) x = U.2 k x)) := by
    intro k z hk hu
    have h2 := h k hk
    rw [if_pos z] at h2 ⊢
    exact h2.trans hu.symm
  intro k hk
  have hk2 : 46 ≤ k ∧ k < 55 := by simpa using hk
  rcases (show k = 46 ∨ k = 47 ∨ k = 48 ∨ k = 49 ∨ k = 50 ∨ k = 51 ∨ k = 52 ∨ k = 53 ∨ k = 54 by omega) with rfl | rfl | rfl | rfl | rfl | rfl | rfl | rfl | rfl
  · exact gs 46 rfl rfl h46
  · exact ga 47 (by decide) rfl h47
  · exact ga 48 (by decide) rfl h48
  · exact ga 49 (by decide) rfl h49
  · exact ga 50 (by decide) rfl h50
  · exact gs 51 rfl rfl h51
  · exact ga 52 (by decide) rfl h52
  · exact ga 53 (by decide) rfl h53
  · exact ga 54 (by decide) rfl h54
/-- scratch is written -/
theorem TE.wi {i : Nat → Nat → Int32} {j : Nat → Nat → Int64} {mb : Nat} {τ : Mu} (h : TE i j mb τ) (k x : Nat) (v : Int32) (hk : (!told k && decide (k < 70) && (mkd.getD k 0 != 0)) = true) (hd : (List.range 70).all (fun q => !told q || (mkd.getD q 0 == 0) || (mrk.getD q 0 != mrk.getD k 0)) = true) (h0 : (mrk.getD k 0 == 0) = false) : TE (up2 i (ma mb k) x v) j mb τ := by
  intro q hq
  have h2 := h q hq
  have hq7 : q < 70 := by unfold told at hq; simp only [Bool.and_eq_true, decide_eq_true_eq] at hq; omega
  by_cases z : mkd.getD q 0 = 0
  · rw [if_pos z] at h2 ⊢
    rw [up2_a _ _ (ma_0 h0).symm]
    exact h2
  · rw [if_neg z] at h2 ⊢
    have h3 := List.all_eq_true.mp hd q (List.mem_range.mpr hq7)
    rw [hq] at h3
    simp only [Bool.not_true, Bool.false_or, Bool.or_eq_true, beq_iff_eq, bne_iff_ne] at h3
    have h4 : mrk.getD q 0 ≠ mrk.getD k 0 := h3.resolve_left z
    exact ⟨fun y => by rw [up2_a _ _ (by unfold ma; omega)]; exact h2.1 y, h2.2⟩
theorem TE.wl {i : Nat → Nat → Int32} {j : Nat → Nat → Int64} {mb : Nat} {τ : Mu} (h : TE i j mb τ) (k x : Nat) (v : Int64) (hd : (List.range 70).all (fun q => !told q || (mkd.getD q 0 == 0) || (mrk.getD q 0 != mrk.getD k 0)) = true) : TE i (up2 j (ma mb k) x v) mb τ := by
  intro q hq
  have h2 := h q hq
  have hq7 : q < 70 := by unfold told at hq; simp only [Bool.and_eq_true, decide_eq_true_eq] at hq; omega
  by_cases z : mkd.getD q 0 = 0
  · rw [if_pos z] at h2 ⊢
    exact h2
  · rw [if_neg z] at h2 ⊢
    have h3 := List.all_eq_true.mp hd q (List.mem_range.mpr hq7)
    rw [hq] at h3
    simp only [Bool.not_true, Bool.false_or, Bool.or_eq_true, beq_iff_eq, bne_iff_ne] at h3
    have h4 : mrk.getD q 0 ≠ mrk.getD k 0 := h3.resolve_left z
    exact ⟨h2.1, fun y => by rw [up2_a _ _ (by unfold ma; omega)]; exact h2.2 y⟩
/-- a scratch number of the reference itself is written -/
theorem TE.ws {i : Nat → Nat → Int32} {j : Nat → Nat → Int64} {mb : Nat} {τ : Mu} (h : TE i j mb τ) (k : Nat) (v : Int32) (hk : told k = false) (hd : (List.range 70).all (fun q => !told q || (mkd.getD q 0 == 0) || (mrk.getD q 0 != 0)) = true) : TE (up2 i mb k v) j mb τ := by
  intro q hq
  have h2 := h q hq
  have hq7 : q < 70 := by unfold told at hq; simp only [Bool.and_eq_true, decide_eq_true_eq] at hq; omega
  by_cases z : mkd.getD q 0 = 0
  · rw [if_pos z] at h2 ⊢
    rw [up2_k _ _ (fun e => by rw [e, hk] at hq; cases hq)]
    exact h2
  · rw [if_neg z] at h2 ⊢
    have h3 := List.all_eq_true.mp hd q (List.mem_range.mpr hq7)
    rw [hq] at h3
    simp only [Bool.not_true, Bool.false_or, Bool.or_eq_true, beq_iff_eq, bne_iff_ne] at h3
    have h4 : mrk.getD q 0 ≠ 0 := h3.resolve_left z
    exact ⟨fun y => by rw [up2_a _ _ (by unfold ma; omega)]; exact h2.1 y, h2.2⟩
/-- nothing outside of the reference at mb changes, no shape changes -/
def mOut (mb : Nat) (M M' : Mem) : Prop := M'.1 = M.1 ∧ M'.2.1 = M.2.1 ∧ M'.2.2.2.2 = M.2.2.2.2 ∧ ∀ a, (a < mb ∨ mb + 58 < a) → mI M' a = mI M a ∧ mL M' a = mL M a
theorem mOut.rf (mb : Nat) (M : Mem) : mOut mb M M := ⟨rfl, rfl, rfl, fun _ _ => ⟨rfl, rfl⟩⟩
theorem mOut.tr {mb : Nat} {M M' M2 : Mem} (h : mOut mb M M') (h2 : mOut mb M' M2) : mOut mb M M2 := ⟨h2.1.trans h.1, h2.2.1.trans h.2.1, h2.2.2.1.trans h.2.2.1, fun a q => ⟨(h2.2.2.2 a q).1.trans (h.2.2.2 a q).1, (h2.2.2.2 a q).2.trans (h.2.2.2 a q).2⟩⟩
theorem mrk_le : ∀ k, mrk.getD k 0 ≤ 58 := by
  intro k
  by_cases h : k < 70
  · exact (show ∀ k, k < 70 → mrk.getD k 0 ≤ 58 by decide +kernel) k h
  · rw [List.getD, List.getElem?_eq_none (by show 70 ≤ k; omega)]; exact Nat.zero_le _
theorem rng_ct (x : Int32) (n : Nat) (hn : n < 2 ^ 30) : decide (lN 0 ≤ x.toInt64 ∧ x.toInt64 ≤ (nI n - nI 1).toInt64) = rng x n := by
  unfold rng
  refine decide_eq_decide.mpr ?_
  rw [Int64.le_iff_toInt_le, Int64.le_iff_toInt_le, Int32.toInt_toInt64, Int32.toInt_toInt64, pk_sub_toInt hn (by decide), show (lN 0).toInt = 0 from rfl]
  omega
def un (τ : Mu) (k i : Nat) : Nat := (τ.1 k i).toNatClampNeg
def okN (τ : Mu) (k i b : Nat) : Prop := τ.1 k i = nI (un τ k i) ∧ un τ k i ≤ b
/-- the sums of numbers -/
def sumN (f : Nat → Nat) (a : Nat) : Nat → Nat
  | 0 => 0
  | n + 1 => sumN f a n + f (a + n)
theorem sumN_le {f : Nat → Nat} {a b n : Nat} (h : ∀ i, i < n → f (a + i) ≤ b) : sumN f a n ≤ n * b := by
  induction n with
  | zero => simp [sumN]
  | succ n ih =>
    have h1 := ih (fun i hi => h i (by omega))
    have h2 := h n (by omega)
    show sumN f a n + f (a + n) ≤ (n + 1) * b
    rw [Nat.succ_mul]
    omega
theorem sumN_congr {f g : Nat → Nat} {a n : Nat} (h : ∀ i, i < n → f (a + i) = g (a + i)) : sumN f a n = sumN g a n := by
  induction n with
  | zero => rfl
  | succ n ih => show sumN f a n + f (a + n) = sumN g a n + g (a + n); rw [ih (fun i hi => h i (by omega)), h n (by omega)]
/-- the pay that holds behind d days, by what was told -/
def spreadV (τ : Mu) (c : Nat) : Nat → Int32
  | 0 => 0
  | d + 1 => if 0 ≤ τ.1 6 (720 * c + d) then τ.1 6 (720 * c + d) else spreadV τ c d
/-- how many numbers a formula leaves on the pile, and that it always finds enough -/
def fmD (τ : Mu) (e : Nat) : Nat → Nat
  | 0 => 0
  | k + 1 => if un τ 22 (10 * e + k) < 4 then fmD τ e k + 1 else fmD τ e k - 1
def fmOK (τ : Mu) (e n : Nat) : Prop := ∀ k, k < n → 4 ≤ un τ 22 (10 * e + k) → 2 ≤ fmD τ e k
/-- for what a formula asks, as a set -/
def needK (τ : Mu) (e : Nat) : Nat → Nat
  | 0 => 0
  | k + 1 => needK τ e k ||| (if un τ 22 (10 * e + k) = 2 then 2 ^ un τ 23 (10 * e + k) else 0)
def needN (τ : Mu) (e : Nat) : Nat := needK τ e (un τ 24 e)
/-- the first below n -/
def fstN (f : Nat → Bool) : Nat → Option Nat
  | 0 => none
  | n + 1 => match fstN f n with | some j => some j | none => if f n = true then some n else none
/-- an element that isn't done, all of whose needs are -/
def fitB (τ : Mu) (D e : Nat) : Bool := !D.testBit e && decide ((needN τ e &&& (2 ^ un τ 26 26 - 1)) &&& D = needN τ e &&& (2 ^ un τ 26 26 - 1))
def arrS (τ : Mu) (D : Nat) : Nat := match fstN (fitB τ D) (un τ 26 26) with | some e => e | none => 0
def arrD (τ : Mu) : Nat → Nat
  | 0 => 0
  | k + 1 => arrD τ k ||| 2 ^ arrS τ (arrD τ k)
/-- what was told is as the document bounds it -/
def WF (τ : Mu) : Prop := (okN τ 9 9 10) ∧ (∀ c, c < un τ 9 9 → okN τ 0 c 5) ∧ (∀ c, c < un τ 9 9 → okN τ 1 c 2) ∧ (∀ c, c < un τ 9 9 → okN τ 2 c 719) ∧ (∀ c, c < un τ 9 9 → okN τ 3 c 719) ∧ (∀ c, c < un τ 9 9 → un τ 2 c ≤ un τ 3 c) ∧ (∀ c, c < un τ 9 9 → okN τ 4 c 1) ∧ (∀ c, c < un τ 9 9 → okN τ 5 c 600) ∧ (∀ c, c < un τ 9 9 → 60 ≤ un τ 5 c) ∧ (∀ i, i < 7200 → okN τ 7 i 1000000) ∧ (∀ i, i < 7200 → τ.1 6 i = -1 ∨ okN τ 6 i 1000000) ∧ (∀ c d, c < 10 → d < 720 → τ.1 7 (720 * c + d) = spreadV τ c (d + 1)) ∧ (∀ i, i < 7200 → okN τ 8 i (1440 * un τ 13 13)) ∧ (∀ c d, c < un τ 9 9 → d < un τ 2 c → un τ 8 (720 * c + d) = 0) ∧ (∀ i, i < 7200 → 720 * un τ 9 9 ≤ i → un τ 8 i = 0) ∧ (okN τ 13 13 40) ∧ (∀ k, k < un τ 13 13 → okN τ 10 k 9 ∧ un τ 10 k < un τ 9 9) ∧ (∀ k, k < un τ 13 13 → okN τ 11 k 1036799) ∧ (∀ k, k < un τ 13 13 → okN τ 12 k 1440 ∧ 1 ≤ un τ 12 k) ∧ (okN τ 17 17 30) ∧ (∀ k, k < un τ 17 17 → okN τ 14 k 9 ∧ un τ 14 k < un τ 9 9) ∧ (∀ k, k < un τ 17 17 → okN τ 15 k 719 ∧ un τ 2 (un τ 14 k) ≤ un τ 15 k ∧ un τ 15 k ≤ un τ 3 (un τ 14 k)) ∧ (okN τ 18 18 50) ∧ (okN τ 19 19 500) ∧ (okN τ 20 20 12) ∧ (okN τ 26 26 6) ∧ (∀ e, e < 7 → okN τ 24 e 10) ∧ (∀ e k, e < 7 → k < un τ 24 e → okN τ 22 (10 * e + k) 9) ∧ (∀ e k, e < 7 → k < un τ 24 e → un τ 22 (10 * e + k) = 2 → okN τ 23 (10 * e + k) 5) ∧ (∀ e, e < un τ 26 26 → okN τ 25 e 63) ∧ (∀ e, e < un τ 26 26 → fmOK τ e (un τ 24 e) ∧ fmD τ e (un τ 24 e) = 1) ∧ (fmOK τ 6 (un τ 24 6)) ∧ (∀ k, k < un τ 26 26 → okN τ 27 k 5 ∧ un τ 27 k < un τ 26 26) ∧ (∀ k, k < un τ 26 26 → un τ 27 k = arrS τ (arrD τ k)) ∧ (∃ rk : Nat → Nat, ∀ e f, e < un τ 26 26 → f < un τ 26 26 → (needN τ e).testBit f = true → rk f < rk e) ∧ (∀ i, i < 72 → τ.1 31 i = -1 ∨ okN τ 31 i 500) ∧ (∀ i, i < 72 → okN τ 32 i 100000000) ∧ (∀ i, i < 144 → okN τ 33 i 4) ∧ (∀ i b, i < 144 → b < un τ 33 i → okN τ 34 (4 * i + b) 1000000000) ∧ (∀ i b, i < 144 → b < un τ 33 i → okN τ 35 (4 * i + b) 900) ∧ (∀ i, i < 144 → τ.1 36 i = -1 ∨ okN τ 36 i 1) ∧ (∀ i, i < 144 → τ.1 37 i = -1 ∨ okN τ 37 i 200) ∧ (∀ i, i < 432 → -10000000 ≤ (τ.1 30 i).toInt ∧ (τ.1 30 i).toInt ≤ 12000000) ∧ (okN τ 44 44 6) ∧ (∀ g, g < un τ 44 44 → okN τ 38 g 5) ∧ (∀ g, g < un τ 44 44 → okN τ 39 g 23) ∧ (∀ g, g < un τ 44 44 → okN τ 40 g 9) ∧ (∀ g, g < un τ 44 44 → okN τ 41 g 100000000) ∧ (∀ g, g < un τ 44 44 → okN τ 42 g 1000) ∧ (∀ g, g < un τ 44 44 → okN τ 43 g 100000000) ∧ (okN τ 46 46 24) ∧ (okN τ 51 51 144) ∧ (∀ k, k < un τ 51 51 → okN τ 47 k 5) ∧ (∀ k, k < un τ 51 51 → okN τ 48 k 23) ∧ (∀ k, k < un τ 51 51 → okN τ 50 k 1)
theorem WF.nc {τ : Mu} (h : WF τ) : okN τ 9 9 10 := h.1
theorem WF.cw {τ : Mu} (h : WF τ) : ∀ c, c < un τ 9 9 → okN τ 0 c 5 := h.2.1
theorem WF.cp {τ : Mu} (h : WF τ) : ∀ c, c < un τ 9 9 → okN τ 1 c 2 := h.2.2.1
theorem WF.cf {τ : Mu} (h : WF τ) : ∀ c, c < un τ 9 9 → okN τ 2 c 719 := h.2.2.2.1
theorem WF.ct {τ : Mu} (h : WF τ) : ∀ c, c < un τ 9 9 → okN τ 3 c 719 := h.2.2.2.2.1
theorem WF.cft {τ : Mu} (h : WF τ) : ∀ c, c < un τ 9 9 → un τ 2 c ≤ un τ 3 c := h.2.2.2.2.2.1
theorem WF.ch {τ : Mu} (h : WF τ) : ∀ c, c < un τ 9 9 → okN τ 4 c 1 := h.2.2.2.2.2.2.1
theorem WF.cn {τ : Mu} (h : WF τ) : ∀ c, c < un τ 9 9 → okN τ 5 c 600 := h.2.2.2.2.2.2.2.1
theorem WF.cn0 {τ : Mu} (h : WF τ) : ∀ c, c < un τ 9 9 → 60 ≤ un τ 5 c := h.2.2.2.2.2.2.2.2.1
theorem WF.py {τ : Mu} (h : WF τ) : ∀ i, i < 7200 → okN τ 7 i 1000000 := h.2.2.2.2.2.2.2.2.2.1
theorem WF.tl {τ : Mu} (h : WF τ) : ∀ i, i < 7200 → τ.1 6 i = -1 ∨ okN τ 6 i 1000000 := h.2.2.2.2.2.2.2.2.2.2.1
theorem WF.pyt {τ : Mu} (h : WF τ) : ∀ c d, c < 10 → d < 720 → τ.1 7 (720 * c + d) = spreadV τ c (d + 1) := h.2.2.2.2.2.2.2.2.2.2.2.1
theorem WF.mn {τ : Mu} (h : WF τ) : ∀ i, i < 7200 → okN τ 8 i (1440 * un τ 13 13) := h.2.2.2.2.2.2.2.2.2.2.2.2.1
theorem WF.mn0 {τ : Mu} (h : WF τ) : ∀ c d, c < un τ 9 9 → d < un τ 2 c → un τ 8 (720 * c + d) = 0 := h.2.2.2.2.2.2.2.2.2.2.2.2.2.1
theorem WF.mn1 {τ : Mu} (h : WF τ) : ∀ i, i < 7200 → 720 * un τ 9 9 ≤ i → un τ 8 i = 0 := h.2.2.2.2.2.2.2.2.2.2.2.2.2.2.1
theorem WF.sh {τ : Mu} (h : WF τ) : okN τ 13 13 40 := h.2.2.2.2.2.2.2.2.2.2.2.2.2.2.2.1
theorem WF.sc {τ : Mu} (h : WF τ) : ∀ k, k < un τ 13 13 → okN τ 10 k 9 ∧ un τ 10 k < un τ 9 9 := h.2.2.2.2.2.2.2.2.2.2.2.2.2.2.2.2.1
theorem WF.sb {τ : Mu} (h : WF τ) : ∀ k, k < un τ 13 13 → okN τ 11 k 1036799 := h.2.2.2.2.2.2.2.2.2.2.2.2.2.2.2.2.2.1
theorem WF.sl {τ : Mu} (h : WF τ) : ∀ k, k < un τ 13 13 → okN τ 12 k 1440 ∧ 1 ≤ un τ 12 k := h.2.2.2.2.2.2.2.2.2.2.2.2.2.2.2.2.2.2.1
theorem WF.nl {τ : Mu} (h : WF τ) : okN τ 17 17 30 := h.2.2.2.2.2.2.2.2.2.2.2.2.2.2.2.2.2.2.2.1
theorem WF.lc {τ : Mu} (h : WF τ) : ∀ k, k < un τ 17 17 → okN τ 14 k 9 ∧ un τ 14 k < un τ 9 9 := h.2.2.2.2.2.2.2.2.2.2.2.2.2.2.2.2.2.2.2.2.1
theorem WF.ld {τ : Mu} (h : WF τ) : ∀ k, k < un τ 17 17 → okN τ 15 k 719 ∧ un τ 2 (un τ 14 k) ≤ un τ 15 k ∧ un τ 15 k ≤ un τ 3 (un τ 14 k) := h.2.2.2.2.2.2.2.2.2.2.2.2.2.2.2.2.2.2.2.2.2.1
theorem WF.rt {τ : Mu} (h : WF τ) : okN τ 18 18 50 := h.2.2.2.2.2.2.2.2.2.2.2.2.2.2.2.2.2.2.2.2.2.2.1
theorem WF.ca {τ : Mu} (h : WF τ) : okN τ 19 19 500 := h.2.2.2.2.2.2.2.2.2.2.2.2.2.2.2.2.2.2.2.2.2.2.2.1
theorem WF.te {τ : Mu} (h : WF τ) : okN τ 20 20 12 := h.2.2.2.2.2.2.2.2.2.2.2.2.2.2.2.2.2.2.2.2.2.2.2.2.1
theorem WF.ne {τ : Mu} (h : WF τ) : okN τ 26 26 6 := h.2.2.2.2.2.2.2.2.2.2.2.2.2.2.2.2.2.2.2.2.2.2.2.2.2.1
theorem WF.el {τ : Mu} (h : WF τ) : ∀ e, e < 7 → okN τ 24 e 10 := h.2.2.2.2.2.2.2.2.2.2.2.2.2.2.2.2.2.2.2.2.2.2.2.2.2.2.1
theorem WF.ew {τ : Mu} (h : WF τ) : ∀ e k, e < 7 → k < un τ 24 e → okN τ 22 (10 * e + k) 9 := h.2.2.2.2.2.2.2.2.2.2.2.2.2.2.2.2.2.2.2.2.2.2.2.2.2.2.2.1
theorem WF.en {τ : Mu} (h : WF τ) : ∀ e k, e < 7 → k < un τ 24 e → un τ 22 (10 * e + k) = 2 → okN τ 23 (10 * e + k) 5 := h.2.2.2.2.2.2.2.2.2.2.2.2.2.2.2.2.2.2.2.2.2.2.2.2.2.2.2.2.1
theorem WF.ep {τ : Mu} (h : WF τ) : ∀ e, e < un τ 26 26 → okN τ 25 e 63 := h.2.2.2.2.2.2.2.2.2.2.2.2.2.2.2.2.2.2.2.2.2.2.2.2.2.2.2.2.2.1
theorem WF.fm {τ : Mu} (h : WF τ) : ∀ e, e < un τ 26 26 → fmOK τ e (un τ 24 e) ∧ fmD τ e (un τ 24 e) = 1 := h.2.2.2.2.2.2.2.2.2.2.2.2.2.2.2.2.2.2.2.2.2.2.2.2.2.2.2.2.2.2.1
theorem WF.dr {τ : Mu} (h : WF τ) : fmOK τ 6 (un τ 24 6) := h.2.2.2.2.2.2.2.2.2.2.2.2.2.2.2.2.2.2.2.2.2.2.2.2.2.2.2.2.2.2.2.1
theorem WF.od {τ : Mu} (h : WF τ) : ∀ k, k < un τ 26 26 → okN τ 27 k 5 ∧ un τ 27 k < un τ 26 26 := h.2.2.2.2.2.2.2.2.2.2.2.2.2.2.2.2.2.2.2.2.2.2.2.2.2.2.2.2.2.2.2.2.1
theorem WF.or {τ : Mu} (h : WF τ) : ∀ k, k < un τ 26 26 → un τ 27 k = arrS τ (arrD τ k) := h.2.2.2.2.2.2.2.2.2.2.2.2.2.2.2.2.2.2.2.2.2.2.2.2.2.2.2.2.2.2.2.2.2.1
theorem WF.ac {τ : Mu} (h : WF τ) : ∃ rk : Nat → Nat, ∀ e f, e < un τ 26 26 → f < un τ 26 26 → (needN τ e).testBit f = true → rk f < rk e := h.2.2.2.2.2.2.2.2.2.2.2.2.2.2.2.2.2.2.2.2.2.2.2.2.2.2.2.2.2.2.2.2.2.2.1
theorem WF.cr {τ : Mu} (h : WF τ) : ∀ i, i < 72 → τ.1 31 i = -1 ∨ okN τ 31 i 500 := h.2.2.2.2.2.2.2.2.2.2.2.2.2.2.2.2.2.2.2.2.2.2.2.2.2.2.2.2.2.2.2.2.2.2.2.1
theorem WF.cc {τ : Mu} (h : WF τ) : ∀ i, i < 72 → okN τ 32 i 100000000 := h.2.2.2.2.2.2.2.2.2.2.2.2.2.2.2.2.2.2.2.2.2.2.2.2.2.2.2.2.2.2.2.2.2.2.2.2.1
theorem WF.bn {τ : Mu} (h : WF τ) : ∀ i, i < 144 → okN τ 33 i 4 := h.2.2.2.2.2.2.2.2.2.2.2.2.2.2.2.2.2.2.2.2.2.2.2.2.2.2.2.2.2.2.2.2.2.2.2.2.2.1
theorem WF.be {τ : Mu} (h : WF τ) : ∀ i b, i < 144 → b < un τ 33 i → okN τ 34 (4 * i + b) 1000000000 := h.2.2.2.2.2.2.2.2.2.2.2.2.2.2.2.2.2.2.2.2.2.2.2.2.2.2.2.2.2.2.2.2.2.2.2.2.2.2.1
theorem WF.bt {τ : Mu} (h : WF τ) : ∀ i b, i < 144 → b < un τ 33 i → okN τ 35 (4 * i + b) 900 := h.2.2.2.2.2.2.2.2.2.2.2.2.2.2.2.2.2.2.2.2.2.2.2.2.2.2.2.2.2.2.2.2.2.2.2.2.2.2.2.1
theorem WF.st {τ : Mu} (h : WF τ) : ∀ i, i < 144 → τ.1 36 i = -1 ∨ okN τ 36 i 1 := h.2.2.2.2.2.2.2.2.2.2.2.2.2.2.2.2.2.2.2.2.2.2.2.2.2.2.2.2.2.2.2.2.2.2.2.2.2.2.2.2.1
theorem WF.pt {τ : Mu} (h : WF τ) : ∀ i, i < 144 → τ.1 37 i = -1 ∨ okN τ 37 i 200 := h.2.2.2.2.2.2.2.2.2.2.2.2.2.2.2.2.2.2.2.2.2.2.2.2.2.2.2.2.2.2.2.2.2.2.2.2.2.2.2.2.2.1
theorem WF.bo {τ : Mu} (h : WF τ) : ∀ i, i < 432 → -10000000 ≤ (τ.1 30 i).toInt ∧ (τ.1 30 i).toInt ≤ 12000000 := h.2.2.2.2.2.2.2.2.2.2.2.2.2.2.2.2.2.2.2.2.2.2.2.2.2.2.2.2.2.2.2.2.2.2.2.2.2.2.2.2.2.2.1
theorem WF.ng {τ : Mu} (h : WF τ) : okN τ 44 44 6 := h.2.2.2.2.2.2.2.2.2.2.2.2.2.2.2.2.2.2.2.2.2.2.2.2.2.2.2.2.2.2.2.2.2.2.2.2.2.2.2.2.2.2.2.1
theorem WF.gw {τ : Mu} (h : WF τ) : ∀ g, g < un τ 44 44 → okN τ 38 g 5 := h.2.2.2.2.2.2.2.2.2.2.2.2.2.2.2.2.2.2.2.2.2.2.2.2.2.2.2.2.2.2.2.2.2.2.2.2.2.2.2.2.2.2.2.2.1
theorem WF.gm {τ : Mu} (h : WF τ) : ∀ g, g < un τ 44 44 → okN τ 39 g 23 := h.2.2.2.2.2.2.2.2.2.2.2.2.2.2.2.2.2.2.2.2.2.2.2.2.2.2.2.2.2.2.2.2.2.2.2.2.2.2.2.2.2.2.2.2.2.1
theorem WF.gr {τ : Mu} (h : WF τ) : ∀ g, g < un τ 44 44 → okN τ 40 g 9 := h.2.2.2.2.2.2.2.2.2.2.2.2.2.2.2.2.2.2.2.2.2.2.2.2.2.2.2.2.2.2.2.2.2.2.2.2.2.2.2.2.2.2.2.2.2.2.1
theorem WF.gt {τ : Mu} (h : WF τ) : ∀ g, g < un τ 44 44 → okN τ 41 g 100000000 := h.2.2.2.2.2.2.2.2.2.2.2.2.2.2.2.2.2.2.2.2.2.2.2.2.2.2.2.2.2.2.2.2.2.2.2.2.2.2.2.2.2.2.2.2.2.2.2.1
theorem WF.gp {τ : Mu} (h : WF τ) : ∀ g, g < un τ 44 44 → okN τ 42 g 1000 := h.2.2.2.2.2.2.2.2.2.2.2.2.2.2.2.2.2.2.2.2.2.2.2.2.2.2.2.2.2.2.2.2.2.2.2.2.2.2.2.2.2.2.2.2.2.2.2.2.1
theorem WF.gk {τ : Mu} (h : WF τ) : ∀ g, g < un τ 44 44 → okN τ 43 g 100000000 := h.2.2.2.2.2.2.2.2.2.2.2.2.2.2.2.2.2.2.2.2.2.2.2.2.2.2.2.2.2.2.2.2.2.2.2.2.2.2.2.2.2.2.2.2.2.2.2.2.2.1
theorem WF.op {τ : Mu} (h : WF τ) : okN τ 46 46 24 := h.2.2.2.2.2.2.2.2.2.2.2.2.2.2.2.2.2.2.2.2.2.2.2.2.2.2.2.2.2.2.2.2.2.2.2.2.2.2.2.2.2.2.2.2.2.2.2.2.2.2.1
theorem WF.np {τ : Mu} (h : WF τ) : okN τ 51 51 144 := h.2.2.2.2.2.2.2.2.2.2.2.2.2.2.2.2.2.2.2.2.2.2.2.2.2.2.2.2.2.2.2.2.2.2.2.2.2.2.2.2.2.2.2.2.2.2.2.2.2.2.2.1
theorem WF.pw {τ : Mu} (h : WF τ) : ∀ k, k < un τ 51 51 → okN τ 47 k 5 := h.2.2.2.2.2.2.2.2.2.2.2.2.2.2.2.2.2.2.2.2.2.2.2.2.2.2.2.2.2.2.2.2.2.2.2.2.2.2.2.2.2.2.2.2.2.2.2.2.2.2.2.2.1
theorem WF.pm {τ : Mu} (h : WF τ) : ∀ k, k < un τ 51 51 → okN τ 48 k 23 := h.2.2.2.2.2.2.2.2.2.2.2.2.2.2.2.2.2.2.2.2.2.2.2.2.2.2.2.2.2.2.2.2.2.2.2.2.2.2.2.2.2.2.2.2.2.2.2.2.2.2.2.2.2.1
theorem WF.pb {τ : Mu} (h : WF τ) : ∀ k, k < un τ 51 51 → okN τ 50 k 1 := h.2.2.2.2.2.2.2.2.2.2.2.2.2.2.2.2.2.2.2.2.2.2.2.2.2.2.2.2.2.2.2.2.2.2.2.2.2.2.2.2.2.2.2.2.2.2.2.2.2.2.2.2.2.2

