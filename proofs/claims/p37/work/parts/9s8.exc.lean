/-! THE TWO RUNS THAT ARE TIGHT: links, numbers -/
section Link
variable {τ : Mu} {p m : Nat}
/-- which elements come to what the first one does -/
def lkB (τ : Mu) (p : Nat) : Nat → Nat → Bool
  | 0 => fun _ => false
  | k + 1 => fun j => if j = un τ 27 k then ((un τ 25 (un τ 27 k)).testBit p && (decide (k = 0) || (decide (un τ 22 (10 * un τ 27 k + 0) = 2) && (decide (un τ 23 (10 * un τ 27 k + 0) < un τ 26 26) && lkB τ p k (un τ 23 (10 * un τ 27 k + 0)))))) else lkB τ p k j
theorem lk_at {k : Nat} : lkB τ p (k + 1) (un τ 27 k) = ((un τ 25 (un τ 27 k)).testBit p && (decide (k = 0) || (decide (un τ 22 (10 * un τ 27 k + 0) = 2) && (decide (un τ 23 (10 * un τ 27 k + 0) < un τ 26 26) && lkB τ p k (un τ 23 (10 * un τ 27 k + 0)))))) := if_pos rfl
theorem lk_no {k j : Nat} (h : j ≠ un τ 27 k) : lkB τ p (k + 1) j = lkB τ p k j := if_neg h
theorem link (hw : WF τ) (hm : MO τ) {B : Nat} (hb : bsT τ p m ≤ B) (hh : hrT τ p m ≤ B) (h6 : 6 ≤ B) (hB : B ≤ 100000000) (ho : ∀ e, e < un τ 26 26 → e ≠ un τ 27 0 → un τ 24 e = 1) : ∀ k, k + 1 ≤ un τ 26 26 → ∀ j, (lkB τ p (k + 1) j = true → cmL τ p m (k + 1) j = cmL τ p m 1 (un τ 27 0)) ∧ (lkB τ p (k + 1) j = false → bdL (cmL τ p m (k + 1) j) B)
  | 0, _ => fun j => by
    by_cases z : j = un τ 27 0
    · rw [z]
      refine ⟨fun _ => rfl, fun h => ?_⟩
      rw [lk_at] at h
      rw [cm_at, if_neg (by intro t; rw [t] at h; simp at h)]
      exact bd_lN (Nat.zero_le _) (by omega)
    · rw [lk_no z, cm_no z]
      exact ⟨fun h => (by cases h), fun _ => bd_lN (Nat.zero_le _) (by omega)⟩
  | k + 1, hk => fun j => by
    have ih := link hw hm hb hh h6 hB ho k (by omega)
    by_cases z : j = un τ 27 (k + 1)
    · rw [z, lk_at, cm_at]
      have he := (hw.od (k + 1) (by omega)).2
      have hne := hw.ne.2
      have h1 := ho _ he (fun e => od_inj hw (show 0 < k + 1 by omega) (by omega) e.symm)
      obtain ⟨w4, hf⟩ := form1 (cm := cmL τ p m (k + 1)) (b := lN (bsT τ p m)) (h := lN (hrT τ p m)) (hw.fm _ he).1 h1
      by_cases t : (un τ 25 (un τ 27 (k + 1))).testBit p = true
      · rw [if_pos t, t, hf, Bool.true_and, show decide (k + 1 = 0) = false from decide_eq_false (by omega), Bool.false_or]
        by_cases c2 : un τ 22 (10 * un τ 27 (k + 1) + 0) = 2
        · by_cases c3 : un τ 23 (10 * un τ 27 (k + 1) + 0) < un τ 26 26
          · have e : singL τ (cmL τ p m (k + 1)) (lN (bsT τ p m)) (lN (hrT τ p m)) (10 * un τ 27 (k + 1) + 0) = cmL τ p m (k + 1) (un τ 23 (10 * un τ 27 (k + 1) + 0)) := by
              unfold singL
              rw [if_neg (by omega), if_neg (by omega), if_neg (by omega), if_pos c3]
            rw [decide_eq_true c2, decide_eq_true c3, Bool.true_and, Bool.true_and, e]
            obtain ⟨i1, i2⟩ := ih (un τ 23 (10 * un τ 27 (k + 1) + 0))
            exact ⟨fun h => by rw [kept_I (cmL_bd _ _)]; exact i1 h, fun h => kept_bd (i2 h)⟩
          · have e : singL τ (cmL τ p m (k + 1)) (lN (bsT τ p m)) (lN (hrT τ p m)) (10 * un τ 27 (k + 1) + 0) = lN 0 := by
              unfold singL
              rw [if_neg (by omega), if_neg (by omega), if_neg (by omega), if_neg c3]
            rw [decide_eq_true c2, decide_eq_false c3, e]
            exact ⟨fun h => (by simp at h), fun _ => kept_bd (bd_lN (Nat.zero_le _) (by omega))⟩
        · rw [decide_eq_false c2]
          refine ⟨fun h => (by simp at h), fun _ => kept_bd ?_⟩
          unfold singL
          split
          · exact bd_lN hb (by omega)
          · split
            · exact bd_lN hh (by omega)
            · split
              · rename_i q
                obtain ⟨k2, hk2, e1⟩ := hm _ 0 (by omega) (by omega) q
                rw [e1]
                have e2 : (nI k2).toInt64.toInt = k2 := by rw [Int32.toInt_toInt64, nI_toInt (by omega)]
                exact ⟨by rw [e2]; omega, by rw [e2]; omega⟩
              · omega
      · have tf : (un τ 25 (un τ 27 (k + 1))).testBit p = false := by simpa using t
        rw [if_neg t, tf, Bool.false_and]
        exact ⟨fun h => (by cases h), fun _ => bd_lN (Nat.zero_le _) (by omega)⟩
    · rw [lk_no z, cm_no z]
      exact ih j
theorem sumZ_drop {f : Nat → Int} {B C : Int} (hBC : B ≤ C) : ∀ {n k : Nat}, k < n → f k ≤ B → (∀ i, i < n → f i ≤ C) → sumZ f n ≤ (n - 1 : Int) * C + B
  | 0, _, h, _, _ => absurd h (Nat.not_lt_zero _)
  | n + 1, k, h, hk, hc => by
    have e : (((n + 1 : Nat) : Int) - 1) * C = n * C := by congr 1; omega
    have e2 : (n - 1 : Int) * C = n * C - C := by rw [Int.sub_mul, Int.one_mul]
    have hn := hc n (by omega)
    show sumZ f n + f n ≤ _
    rw [e]
    by_cases z : k = n
    · have := sumZ_bd (f := f) (B := C) (n := n) (fun i hi => hc i (by omega))
      rw [z] at hk
      omega
    · have ih := sumZ_drop hBC (n := n) (k := k) (by omega) hk (fun i hi => hc i (by omega))
      omega
/-- all elements: one is small, or all come to what the first does -/
theorem sum_lk (hw : WF τ) (hm : MO τ) {B : Nat} (h6 : 6 ≤ B) (hB : B ≤ 100000000) (ho : ∀ e, e < un τ 26 26 → e ≠ un τ 27 0 → un τ 24 e = 1) (hE : 1 ≤ un τ 26 26) : (∀ m, bsT τ p m ≤ B → hrT τ p m ≤ B → (gE τ p m (un τ 26 26)).toInt ≤ (un τ 26 26 - 1 : Int) * 100000000 + B) ∨ ((un τ 25 (un τ 27 0)).testBit p = true ∧ ∀ m, bsT τ p m ≤ B → hrT τ p m ≤ B → (gE τ p m (un τ 26 26)).toInt = (un τ 26 26 : Int) * (cmL τ p m 1 (un τ 27 0)).toInt) := by
  by_cases z : ∃ k, k < un τ 26 26 ∧ lkB τ p (k + 1) (un τ 27 k) = false
  · left
    obtain ⟨k, hk, hf⟩ := z
    intro m hb hh
    rw [gE_s _ hw.ne.2]
    exact sumZ_drop (by omega) hk ((link hw hm hb hh h6 hB ho k (by omega) (un τ 27 k)).2 hf).2 (fun i _ => vI_le i)
  · right
    have al : ∀ k, k < un τ 26 26 → lkB τ p (k + 1) (un τ 27 k) = true := fun k hk => by
      cases h : lkB τ p (k + 1) (un τ 27 k)
      · exact absurd ⟨k, hk, h⟩ z
      · rfl
    refine ⟨?_, fun m hb hh => ?_⟩
    · have h := al 0 hE
      rw [lk_at] at h
      exact (Bool.and_eq_true_iff.mp h).1
    · rw [gE_s _ hw.ne.2]
      have e : ∀ k, k < un τ 26 26 → vI τ p m k = (cmL τ p m 1 (un τ 27 0)).toInt := fun k hk => by
        unfold vI
        rw [(link hw hm hb hh h6 hB ho k (by omega) (un τ 27 k)).1 (al k hk)]
      rw [sumZ_cg e]
      generalize (cmL τ p m 1 (un τ 27 0)).toInt = v
      have c : ∀ n : Nat, sumZ (fun _ => v) n = n * v := by
        intro n
        induction n with
        | zero => show (0 : Int) = ((0 : Nat) : Int) * v; simp
        | succ n ih => show sumZ (fun _ => v) n + v = ((n + 1 : Nat) : Int) * v; rw [ih]; push_cast; rw [Int.add_mul, Int.one_mul]
      exact c _
end Link
/-! numbers -/
theorem nb_9k {P d k b0 : Nat} (hP : P ≤ 3999) (hd : d ≤ 30) (hb : b0 = rN (P * d) 30) (hk : k ≤ 6) : 5 * k * (8 * (P * P) + b0 * b0) + 36000 < 4294967288 ∨ 4295247295 ≤ 5 * k * (8 * (P * P) + b0 * b0) := by
  have hPP : P * P ≤ 3999 * 3999 := Nat.mul_le_mul hP hP
  have hb0 : b0 ≤ P := by
    rw [hb]
    exact rq_le (by decide) (by have : P * d ≤ P * 30 := Nat.mul_le_mul_left _ hd; omega)
  have hbb : b0 * b0 ≤ P * P := Nat.mul_le_mul hb0 hb0
  by_cases k6 : k = 6
  · subst k6
    by_cases d30 : d = 30
    · have e : b0 = P := by rw [hb, d30]; unfold rN; omega
      rw [e]
      by_cases c : P ≤ 3988
      · left
        have := Nat.mul_le_mul c c
        omega
      · right
        have := Nat.mul_le_mul (show 3989 ≤ P by omega) (show 3989 ≤ P by omega)
        omega
    · left
      have hb2 : b0 ≤ 3866 := by
        rw [hb]
        exact rq_le (by decide) (by have : P * d ≤ 3999 * 29 := Nat.mul_le_mul hP (by omega); omega)
      have := Nat.mul_le_mul hb2 hb2
      omega
  · left
    have h5 : 5 * k * (8 * (P * P) + b0 * b0) ≤ 25 * (9 * (3999 * 3999)) := Nat.mul_le_mul (by omega) (by omega)
    omega
theorem cube_le {a b : Nat} (h : a ≤ b) : a * a * a ≤ b * b * b := Nat.mul_le_mul (Nat.mul_le_mul h h) h
theorem nb_9c {b0 : Nat} : 4000000000 + 5 * min (b0 * b0 * b0) 100000000 + 36000 < 4294967288 ∨ 4295247295 ≤ 4000000000 + 5 * min (b0 * b0 * b0) 100000000 := by
  by_cases c : b0 ≤ 389
  · left
    have := cube_le c
    omega
  · right
    have := cube_le (show 390 ≤ b0 by omega)
    omega
theorem rN30 {a v : Nat} (h : rN a 30 = v) : 30 * v ≤ a + 15 ∧ a < 30 * v + 15 := by
  unfold rN at h
  omega
theorem nb_x1 {P d e : Nat} (h1 : 1000 ≤ P) (h2 : P ≤ 3999) (hd : d ≤ 30) (he : e ≤ 30) (hu : rN (P * d) 30 = 422) (hv : rN (P * e) 30 = 462) : False := by
  have a := rN30 hu
  have b := rN30 hv
  have d4 : 4 ≤ d := by
    apply Classical.byContradiction
    intro z
    have : P * d ≤ 3999 * 3 := Nat.mul_le_mul h2 (by omega)
    omega
  have d12 : d ≤ 12 := by
    apply Classical.byContradiction
    intro z
    have : 1000 * 13 ≤ P * d := Nat.mul_le_mul h1 (by omega)
    omega
  have e4 : 4 ≤ e := by
    apply Classical.byContradiction
    intro z
    have : P * e ≤ 3999 * 3 := Nat.mul_le_mul h2 (by omega)
    omega
  have e13 : e ≤ 13 := by
    apply Classical.byContradiction
    intro z
    have : 1000 * 14 ≤ P * e := Nat.mul_le_mul h1 (by omega)
    omega
  rcases (show d = 4 ∨ d = 5 ∨ d = 6 ∨ d = 7 ∨ d = 8 ∨ d = 9 ∨ d = 10 ∨ d = 11 ∨ d = 12 by omega) with rfl | rfl | rfl | rfl | rfl | rfl | rfl | rfl | rfl <;> rcases (show e = 4 ∨ e = 5 ∨ e = 6 ∨ e = 7 ∨ e = 8 ∨ e = 9 ∨ e = 10 ∨ e = 11 ∨ e = 12 ∨ e = 13 by omega) with rfl | rfl | rfl | rfl | rfl | rfl | rfl | rfl | rfl | rfl <;> omega
theorem nb_x2 {P d e : Nat} (h1 : 1000 ≤ P) (h2 : P ≤ 3999) (hd : d ≤ 30) (he : e ≤ 30) (hu : rN (P * d) 30 = 429) (hv : rN (P * e) 30 = 456) : False := by
  have a := rN30 hu
  have b := rN30 hv
  have d4 : 4 ≤ d := by
    apply Classical.byContradiction
    intro z
    have : P * d ≤ 3999 * 3 := Nat.mul_le_mul h2 (by omega)
    omega
  have d12 : d ≤ 12 := by
    apply Classical.byContradiction
    intro z
    have : 1000 * 13 ≤ P * d := Nat.mul_le_mul h1 (by omega)
    omega
  have e4 : 4 ≤ e := by
    apply Classical.byContradiction
    intro z
    have : P * e ≤ 3999 * 3 := Nat.mul_le_mul h2 (by omega)
    omega
  have e13 : e ≤ 13 := by
    apply Classical.byContradiction
    intro z
    have : 1000 * 14 ≤ P * e := Nat.mul_le_mul h1 (by omega)
    omega
  rcases (show d = 4 ∨ d = 5 ∨ d = 6 ∨ d = 7 ∨ d = 8 ∨ d = 9 ∨ d = 10 ∨ d = 11 ∨ d = 12 by omega) with rfl | rfl | rfl | rfl | rfl | rfl | rfl | rfl | rfl <;> rcases (show e = 4 ∨ e = 5 ∨ e = 6 ∨ e = 7 ∨ e = 8 ∨ e = 9 ∨ e = 10 ∨ e = 11 ∨ e = 12 ∨ e = 13 by omega) with rfl | rfl | rfl | rfl | rfl | rfl | rfl | rfl | rfl | rfl <;> omega
theorem nb_dec : ∀ i, i < 47 → ∀ j, j < 47 → (4 * ((418 + i) * (418 + i) * (418 + i) + (418 + j) * (418 + j) * (418 + j)) + 44000 < 694967288 ∨ 695247295 ≤ 4 * ((418 + i) * (418 + i) * (418 + i) + (418 + j) * (418 + j) * (418 + j)) ∨ (i = 4 ∧ j = 44) ∨ (i = 44 ∧ j = 4) ∨ (i = 11 ∧ j = 38) ∨ (i = 38 ∧ j = 11)) := by decide +kernel
theorem nb_11 {P d e u v : Nat} (h1 : 1000 ≤ P) (h2 : P ≤ 3999) (hd : d ≤ 30) (he : e ≤ 30) (hu : u = rN (P * d) 30) (hv : v = rN (P * e) 30) : 4 * (min (u * u * u) 100000000 + min (v * v * v) 100000000) + 44000 < 694967288 ∨ 695247295 ≤ 4 * (min (u * u * u) 100000000 + min (v * v * v) 100000000) := by
  have one : ∀ a b : Nat, 465 ≤ a → 4 * (min (a * a * a) 100000000 + min (b * b * b) 100000000) + 44000 < 694967288 ∨ 695247295 ≤ 4 * (min (a * a * a) 100000000 + min (b * b * b) 100000000) := fun a b ha => by
    have c1 := cube_le ha
    by_cases c : b ≤ 419
    · left
      have := cube_le c
      omega
    · right
      have := cube_le (show 420 ≤ b by omega)
      omega
  by_cases cu : 465 ≤ u
  · exact one u v cu
  by_cases cv : 465 ≤ v
  · have := one v u cv
    omega
  have u4 := cube_le (show u ≤ 464 by omega)
  have v4 := cube_le (show v ≤ 464 by omega)
  by_cases cu2 : u ≤ 417
  · left
    have := cube_le cu2
    omega
  by_cases cv2 : v ≤ 417
  · left
    have := cube_le cv2
    omega
  obtain ⟨i, rfl⟩ : ∃ i, u = 418 + i := ⟨u - 418, by omega⟩
  obtain ⟨j, rfl⟩ : ∃ j, v = 418 + j := ⟨v - 418, by omega⟩
  rcases nb_dec i (by omega) j (by omega) with h | h | ⟨rfl, rfl⟩ | ⟨rfl, rfl⟩ | ⟨rfl, rfl⟩ | ⟨rfl, rfl⟩
  · left; omega
  · right; omega
  · exact (nb_x1 h1 h2 hd he hu.symm hv.symm).elim
  · exact (nb_x1 h1 h2 he hd hv.symm hu.symm).elim
  · exact (nb_x2 h1 h2 hd he hu.symm hv.symm).elim
  · exact (nb_x2 h1 h2 he hd hv.symm hu.symm).elim
