/-! WHAT IS OWED, by what was done -/
set_option maxHeartbeats 4000000 in
theorem fin_a1 {n E Y a : Nat} (hE : E < 7) (hY : Y < 24) (ha : a < 4) (h : n + 2 * E + Y + a ≤ 23 ∧ (1 + a) * (5006 + 5700010 * Y) ≤ 100000000) : n * (209997 + (1 + a) * (5006 + 5700010 * Y)) + n * (E * ((1 + a) * (5006 + 5700010 * Y))) < 4294967288 := by
  rcases (show E = 0 ∨ E = 1 ∨ E = 2 ∨ E = 3 ∨ E = 4 ∨ E = 5 ∨ E = 6 by omega) with rfl | rfl | rfl | rfl | rfl | rfl | rfl <;> rcases (show a = 0 ∨ a = 1 ∨ a = 2 ∨ a = 3 by omega) with rfl | rfl | rfl | rfl <;> rcases (show Y = 0 ∨ Y = 1 ∨ Y = 2 ∨ Y = 3 ∨ Y = 4 ∨ Y = 5 ∨ Y = 6 ∨ Y = 7 ∨ Y = 8 ∨ Y = 9 ∨ Y = 10 ∨ Y = 11 ∨ Y = 12 ∨ Y = 13 ∨ Y = 14 ∨ Y = 15 ∨ Y = 16 ∨ Y = 17 ∨ Y = 18 ∨ Y = 19 ∨ Y = 20 ∨ Y = 21 ∨ Y = 22 ∨ Y = 23 by omega) with rfl | rfl | rfl | rfl | rfl | rfl | rfl | rfl | rfl | rfl | rfl | rfl | rfl | rfl | rfl | rfl | rfl | rfl | rfl | rfl | rfl | rfl | rfl | rfl <;> omega
set_option maxHeartbeats 4000000 in
theorem fin_a2 {n E Y a : Nat} (hE : E < 7) (hY : Y < 24) (ha : a < 4) (h : n + 2 * E + Y + a ≤ 23 ∧ 100000000 < (1 + a) * (5006 + 5700010 * Y)) : n * (209997 + (1 + a) * (5006 + 5700010 * Y)) + n * (E * 100000000) < 4294967288 := by
  rcases (show E = 0 ∨ E = 1 ∨ E = 2 ∨ E = 3 ∨ E = 4 ∨ E = 5 ∨ E = 6 by omega) with rfl | rfl | rfl | rfl | rfl | rfl | rfl <;> rcases (show a = 0 ∨ a = 1 ∨ a = 2 ∨ a = 3 by omega) with rfl | rfl | rfl | rfl <;> rcases (show Y = 0 ∨ Y = 1 ∨ Y = 2 ∨ Y = 3 ∨ Y = 4 ∨ Y = 5 ∨ Y = 6 ∨ Y = 7 ∨ Y = 8 ∨ Y = 9 ∨ Y = 10 ∨ Y = 11 ∨ Y = 12 ∨ Y = 13 ∨ Y = 14 ∨ Y = 15 ∨ Y = 16 ∨ Y = 17 ∨ Y = 18 ∨ Y = 19 ∨ Y = 20 ∨ Y = 21 ∨ Y = 22 ∨ Y = 23 by omega) with rfl | rfl | rfl | rfl | rfl | rfl | rfl | rfl | rfl | rfl | rfl | rfl | rfl | rfl | rfl | rfl | rfl | rfl | rfl | rfl | rfl | rfl | rfl | rfl <;> omega
set_option maxHeartbeats 4000000 in
theorem fin_b0 {n E Y a : Nat} (hE : E < 7) (hY : Y < 24) (ha : a < 4) (h : n + 2 * E ≤ 21 ∧ Y = 0 ∧ a = 0) : n * (209997 + 5006) + n * (E * 25060036) < 4294967288 := by
  rcases (show E = 0 ∨ E = 1 ∨ E = 2 ∨ E = 3 ∨ E = 4 ∨ E = 5 ∨ E = 6 by omega) with rfl | rfl | rfl | rfl | rfl | rfl | rfl <;> omega
set_option maxHeartbeats 4000000 in
theorem fin_b1 {n E Y a : Nat} (hE : E < 7) (hY : Y < 24) (ha : a < 4) (h : Y + a ≤ 2 ∧ 1 ≤ Y + a ∧ n + 2 * E + Y + a ≤ 21) : n * (209997 + (1 + a) * (5006 + 5700010 * Y)) + (E * 400000000 + n * (E * 24990001)) < 4294967288 := by
  rcases (show E = 0 ∨ E = 1 ∨ E = 2 ∨ E = 3 ∨ E = 4 ∨ E = 5 ∨ E = 6 by omega) with rfl | rfl | rfl | rfl | rfl | rfl | rfl <;> rcases (show a = 0 ∨ a = 1 ∨ a = 2 ∨ a = 3 by omega) with rfl | rfl | rfl | rfl <;> rcases (show Y = 0 ∨ Y = 1 ∨ Y = 2 by omega) with rfl | rfl | rfl <;> omega
set_option maxHeartbeats 4000000 in
theorem fin_b2 {n E Y a : Nat} (hE : E < 7) (hY : Y < 24) (ha : a < 4) (h : 3 ≤ Y + a ∧ n + 2 * E + Y + a ≤ 21) : n * (209997 + (1 + a) * (5006 + 5700010 * Y)) + n * (E * 100000000) < 4294967288 := by
  rcases (show E = 0 ∨ E = 1 ∨ E = 2 ∨ E = 3 ∨ E = 4 ∨ E = 5 ∨ E = 6 by omega) with rfl | rfl | rfl | rfl | rfl | rfl | rfl <;> rcases (show a = 0 ∨ a = 1 ∨ a = 2 ∨ a = 3 by omega) with rfl | rfl | rfl | rfl <;> rcases (show Y = 0 ∨ Y = 1 ∨ Y = 2 ∨ Y = 3 ∨ Y = 4 ∨ Y = 5 ∨ Y = 6 ∨ Y = 7 ∨ Y = 8 ∨ Y = 9 ∨ Y = 10 ∨ Y = 11 ∨ Y = 12 ∨ Y = 13 ∨ Y = 14 ∨ Y = 15 ∨ Y = 16 ∨ Y = 17 ∨ Y = 18 ∨ Y = 19 ∨ Y = 20 ∨ Y = 21 ∨ Y = 22 ∨ Y = 23 by omega) with rfl | rfl | rfl | rfl | rfl | rfl | rfl | rfl | rfl | rfl | rfl | rfl | rfl | rfl | rfl | rfl | rfl | rfl | rfl | rfl | rfl | rfl | rfl | rfl <;> omega
set_option maxHeartbeats 4000000 in
theorem fin_c {n E Y a : Nat} (hE : E < 7) (hY : Y < 24) (ha : a < 4) (h : n + 2 * E + Y + a ≤ 19 ∧ ¬ (n = 9 ∧ E = 5) ∧ ¬ (n = 11 ∧ E = 4)) : n * (209997 + (1 + a) * (5006 + 5700010 * Y)) + n * (E * 100000000) < 4294967288 := by
  rcases (show E = 0 ∨ E = 1 ∨ E = 2 ∨ E = 3 ∨ E = 4 ∨ E = 5 ∨ E = 6 by omega) with rfl | rfl | rfl | rfl | rfl | rfl | rfl <;> rcases (show a = 0 ∨ a = 1 ∨ a = 2 ∨ a = 3 by omega) with rfl | rfl | rfl | rfl <;> rcases (show Y = 0 ∨ Y = 1 ∨ Y = 2 ∨ Y = 3 ∨ Y = 4 ∨ Y = 5 ∨ Y = 6 ∨ Y = 7 ∨ Y = 8 ∨ Y = 9 ∨ Y = 10 ∨ Y = 11 ∨ Y = 12 ∨ Y = 13 ∨ Y = 14 ∨ Y = 15 ∨ Y = 16 ∨ Y = 17 ∨ Y = 18 ∨ Y = 19 ∨ Y = 20 ∨ Y = 21 ∨ Y = 22 ∨ Y = 23 by omega) with rfl | rfl | rfl | rfl | rfl | rfl | rfl | rfl | rfl | rfl | rfl | rfl | rfl | rfl | rfl | rfl | rfl | rfl | rfl | rfl | rfl | rfl | rfl | rfl <;> omega
theorem cz1 (n L : Nat) : ((n * L : Nat) : Int) = (n : Int) * (L : Int) := Int.natCast_mul _ _
theorem cz (n E L : Nat) : ((n * (E * L) : Nat) : Int) = (n : Int) * ((E : Int) * (L : Int)) := by rw [Int.natCast_mul, Int.natCast_mul]
section Owed
variable {τ : Mu} {p : Nat}
theorem sumN_all1 {f : Nat → Nat} {n : Nat} (h : ∀ i, i < n → 1 ≤ f i) (hs : sumN f 0 n < n + 2) (ho : ∀ i, i < n → f i % 2 = 1) : ∀ i, i < n → f i = 1 := fun i hi => by
  have a := sumN_g1 h hi
  have b := ho i hi
  omega
set_option maxRecDepth 100000 in
theorem nh (hw : WF τ) (had : ∀ q, q < 6 → AD τ q) (hb : BNS τ) (hy : PYS τ) (ho : OWN τ) (hs : SHF τ) (hm : MO τ) (hp : p < 3) {n : Nat} (h6 : un τ 9 9 ≤ 6) (hbu : n + un τ 26 26 + sumN (fun e => un τ 24 e) 0 (un τ 26 26) + un τ 24 6 + un τ 13 13 + un τ 17 17 + (un τ 9 9 - 3) ≤ 23)
    (hx : ¬ ((n = 9 ∧ un τ 26 26 = 5 ∨ n = 11 ∧ un τ 26 26 = 4) ∧ sumN (fun e => un τ 24 e) 0 (un τ 26 26) = un τ 26 26 + 4)) : sumZ (fun m => (pyL τ p m).toInt) n < 4294967288 := by
  have hE := hw.ne.2
  have hlen : ∀ e, e < un τ 26 26 → un τ 24 e % 2 = 1 := fun e he => len_odd hw he
  have hl1 : ∀ e, e < un τ 26 26 → 1 ≤ (fun e => un τ 24 e) e := fun e he => by have := hlen e he; show 1 ≤ un τ 24 e; omega
  have hWE : un τ 26 26 ≤ sumN (fun e => un τ 24 e) 0 (un τ 26 26) := sumN_g0 hl1
  have hn24 : n ≤ 24 := by omega
  have t1 := py_s (n := n) hw (show p < 6 by omega) (had p (by omega)) hn24
  have o3 := ho.1
  obtain ⟨Y, hY⟩ : ∃ Y, Y = un τ 13 13 + un τ 17 17 := ⟨_, rfl⟩
  obtain ⟨a, ha⟩ : ∃ a, a = un τ 9 9 - 3 := ⟨_, rfl⟩
  obtain ⟨BV, hBV⟩ : ∃ BV, BV = (1 + a) * (5006 + 5700010 * Y) := ⟨_, rfl⟩
  have bs : ∀ m, m < 24 → bsT τ p m ≤ BV := fun m hm1 => by
    have := bs_le hw hy ho hp hm1
    unfold bB at this
    rw [← hY, ← ha, ← hBV] at this
    exact this
  have hr : ∀ m, m < 24 → hrT τ p m ≤ BV := fun m hm1 => by
    have := hr_le hw ho hp hm1
    unfold bB at this
    rw [← hY, ← ha, ← hBV] at this
    exact this
  have B5 : 5006 ≤ BV := by
    rw [hBV]
    exact Nat.le_trans (by omega) (Nat.le_mul_of_pos_left _ (by omega))
  have t2 : sumZ (fun m => (allL τ p m).toInt) n ≤ n * ((209997 + BV : Nat) : Int) + sumZ (fun m => (gE τ p m (un τ 26 26)).toInt) n := by
    have e1 : sumZ (fun m => (allL τ p m).toInt) n ≤ sumZ (fun m => ((209997 + BV : Nat) : Int) + (gE τ p m (un τ 26 26)).toInt) n := sumZ_le fun m hm1 => by
      have := al_le hw hb (show p < 6 by omega) (show m < 24 by omega)
      have := bs m (by omega)
      omega
    rw [sumZ_add] at e1
    have e2 := sumZ_bd (f := fun _ => ((209997 + BV : Nat) : Int)) (B := ((209997 + BV : Nat) : Int)) (n := n) (fun _ _ => Int.le_refl _)
    omega
  -- with a bound on what elements come to in all
  have fin : ∀ G : Nat, sumZ (fun m => (gE τ p m (un τ 26 26)).toInt) n ≤ (G : Int) → n * (209997 + BV) + G < 4294967288 → sumZ (fun m => (pyL τ p m).toInt) n < 4294967288 := fun G hG hlt => by
    have e : ((n * (209997 + BV) : Nat) : Int) = n * ((209997 + BV : Nat) : Int) := cz1 _ _
    omega
  have tot : sumZ (fun m => (gE τ p m (un τ 26 26)).toInt) n ≤ ((n * (un τ 26 26 * 100000000) : Nat) : Int) := by
    have := sumZ_bd (f := fun m => (gE τ p m (un τ 26 26)).toInt) (B := (un τ 26 26 : Int) * 100000000) (n := n) (fun m _ => sumET hw)
    rw [cz]
    exact this
  have hn : n < 24 := by omega
  have hY24 : Y < 24 := by omega
  have ha4 : a < 4 := by omega
  by_cases c1 : sumN (fun e => un τ 24 e) 0 (un τ 26 26) < un τ 26 26 + 2
  · have one := sumN_all1 hl1 c1 hlen
    by_cases cB : BV ≤ 100000000
    · have f := fin_a1 (n := n) (E := un τ 26 26) (Y := Y) (a := a) (by omega) hY24 ha4 ⟨by omega, by rw [← hBV]; exact cB⟩
      rw [← hBV] at f
      refine fin (n * (un τ 26 26 * BV)) ?_ f
      have := sumZ_bd (f := fun m => (gE τ p m (un τ 26 26)).toInt) (B := (un τ 26 26 : Int) * BV) (n := n) (fun m hm1 => sumE1 hw hm (bs m (by omega)) (hr m (by omega)) (by omega) cB one)
      rw [cz]
      exact this
    · have f := fin_a2 (n := n) (E := un τ 26 26) (Y := Y) (a := a) (by omega) hY24 ha4 ⟨by omega, by rw [← hBV]; omega⟩
      rw [← hBV] at f
      exact fin _ tot f
  · by_cases c2 : sumN (fun e => un τ 24 e) 0 (un τ 26 26) < un τ 26 26 + 4
    · by_cases cX : 3 ≤ Y + a
      · have f := fin_b2 (n := n) (E := un τ 26 26) (Y := Y) (a := a) (by omega) hY24 ha4 ⟨cX, by omega⟩
        rw [← hBV] at f
        exact fin _ tot f
      · -- one of three words
        have ex : ∃ x, x < un τ 26 26 ∧ un τ 24 x ≠ 1 := by
          apply Classical.byContradiction
          intro z
          have all : ∀ i, i < un τ 26 26 → un τ 24 i = 1 := fun i hi => by
            apply Classical.byContradiction
            intro q
            exact z ⟨i, hi, q⟩
          have := sumN_le (f := fun e => un τ 24 e) (a := 0) (b := 1) (n := un τ 26 26) (fun i hi => by show un τ 24 (0 + i) ≤ 1; rw [Nat.zero_add, all i hi]; exact Nat.le_refl _)
          omega
        obtain ⟨x, hx1, hx2⟩ := ex
        have hx3 : un τ 24 x = 3 := by
          have q1 := sumN_g1 hl1 hx1
          have q2 := hlen x hx1
          have q3 : un τ 24 x + un τ 26 26 ≤ sumN (fun e => un τ 24 e) 0 (un τ 26 26) + 1 := q1
          omega
        have oth : ∀ e, e < un τ 26 26 → e ≠ x → un τ 24 e = 1 := fun e he hne => by
          have q1 := sumN_g2 hl1 hx1 he (fun q => hne q.symm)
          have q2 := hlen e he
          have q3 : un τ 24 x + un τ 24 e + un τ 26 26 ≤ sumN (fun e => un τ 24 e) 0 (un τ 26 26) + 2 := q1
          omega
        by_cases c0 : Y + a = 0
        · have eB : BV = 5006 := by rw [hBV, show Y = 0 by omega, show a = 0 by omega]
          have f := fin_b0 (n := n) (E := un τ 26 26) (Y := 0) (a := 0) (by omega) (by decide) (by decide) ⟨by omega, rfl, rfl⟩
          rw [eB] at fin
          refine fin (n * (un τ 26 26 * 25060036)) ?_ f
          have := sumZ_bd (f := fun m => (gE τ p m (un τ 26 26)).toInt) (B := (un τ 26 26 : Int) * ((5006 * 5006 : Nat) : Int)) (n := n) (fun m hm1 => sumE3 hw hm (by rw [← eB]; exact bs m (by omega)) (by rw [← eB]; exact hr m (by omega)) (by decide) (by decide) hx3 oth)
          rw [cz]
          exact this
        · have f := fin_b1 (n := n) (E := un τ 26 26) (Y := Y) (a := a) (by omega) hY24 ha4 ⟨by omega, by omega, by omega⟩
          rw [← hBV] at f
          refine fin (un τ 26 26 * 400000000 + n * (un τ 26 26 * 24990001)) ?_ f
          have up : sumZ (fun m => (gE τ p m (un τ 26 26)).toInt) n ≤ sumZ (fun m => (un τ 26 26 : Int) * 24990001 + ((un τ 26 26 : Int) * 100000000) * (if tch τ m = true then 1 else 0)) n := sumZ_le fun m hm1 => by
            cases ct : tch τ m
            · obtain ⟨u1, u2⟩ := bs_u hw hy ho hs ct hp (show m < 24 by omega)
              have := sumE3 (B := 4999) hw hm u1 (by rw [u2]; omega) (by decide) (by decide) hx3 oth
              simp
              exact this
            · have := sumET (p := p) (m := m) hw
              simp
              omega
          rw [sumZ_lin] at up
          have cn : sumZ (fun m => if tch τ m = true then (1 : Int) else 0) n ≤ 4 := by
            have mono : ∀ k n, n ≤ k → sumZ (fun m => if tch τ m = true then (1 : Int) else 0) n ≤ sumZ (fun m => if tch τ m = true then (1 : Int) else 0) k := by
              intro k
              induction k with
              | zero => intro n hn; rw [show n = 0 by omega]; exact Int.le_refl _
              | succ k ih =>
                intro n hn
                by_cases z : n = k + 1
                · rw [z]; exact Int.le_refl _
                · have := ih n (by omega)
                  show _ ≤ sumZ _ k + (if tch τ k = true then (1 : Int) else 0)
                  have h0 : (0 : Int) ≤ (if tch τ k = true then (1 : Int) else 0) := by split <;> omega
                  omega
            have c := tch_cnt (τ := τ)
            have := mono 24 n hn24
            omega
          have c24 := sumZ_bd (f := fun _ => (un τ 26 26 : Int) * 24990001) (B := (un τ 26 26 : Int) * 24990001) (n := n) (fun _ _ => Int.le_refl _)
          have mu : ((un τ 26 26 : Int) * 100000000) * sumZ (fun m => if tch τ m = true then (1 : Int) else 0) n ≤ ((un τ 26 26 : Int) * 100000000) * 4 := Int.mul_le_mul_of_nonneg_left cn (by omega)
          rw [Int.natCast_add, cz, cz1]
          have e4 : ((400000000 : Nat) : Int) = 400000000 := rfl
          have e2 : ((24990001 : Nat) : Int) = 24990001 := rfl
          rw [e4, e2]
          omega
    · have f := fin_c (n := n) (E := un τ 26 26) (Y := Y) (a := a) (by omega) hY24 ha4 ⟨by omega, fun q => hx ⟨.inl q, by omega⟩, fun q => hx ⟨.inr q, by omega⟩⟩
      rw [← hBV] at f
      exact fin _ tot f
end Owed
