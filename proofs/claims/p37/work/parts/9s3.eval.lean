/-! WHAT ELEMENTS COME TO, at most -/
theorem kept_bd {v : Int64} {B : Nat} (h : bdL v B) : bdL (keptL v) B := by
  have e1 : (lN 100000000).toInt = 100000000 := pk_lT (by decide)
  have e2 : (-100000000 : Int64).toInt = -100000000 := by decide
  obtain ⟨h1, h2⟩ := h
  unfold keptL bdL
  split
  · rename_i q
    rw [Int64.lt_iff_toInt_lt, e1] at q
    rw [e1]; omega
  · split
    · rename_i q
      rw [Int64.lt_iff_toInt_lt, e2] at q
      rw [e2]; omega
    · omega
theorem kept_I {v : Int64} (h : bdL v 100000000) : keptL v = v := by
  have e1 : (lN 100000000).toInt = 100000000 := pk_lT (by decide)
  have e2 : (-100000000 : Int64).toInt = -100000000 := by decide
  obtain ⟨h1, h2⟩ := h
  unfold keptL
  rw [if_neg (by rw [Int64.lt_iff_toInt_lt, e1]; omega), if_neg (by rw [Int64.lt_iff_toInt_lt, e2]; omega)]
theorem mul_I {x y : Int64} {A B : Nat} (hx : bdL x A) (hy : bdL y B) (hb : A * B < 2 ^ 62) : (x * y).toInt = x.toInt * y.toInt ∧ bdL (x * y) (A * B) := by
  have h : (x.toInt * y.toInt).natAbs ≤ A * B := by
    rw [Int.natAbs_mul]
    exact Nat.mul_le_mul (by have := hx.1; have := hx.2; omega) (by have := hy.1; have := hy.2; omega)
  have e : (x * y).toInt = x.toInt * y.toInt := by
    rw [Int64.toInt_mul, Int.bmod_eq_of_le (by omega) (by omega)]
  exact ⟨e, by rw [e]; omega, by rw [e]; omega⟩
theorem join_bd {x y : Int64} {w B : Nat} (hx : bdL x B) (hy : bdL y B) (h2 : 2 ≤ B) (hB : B ≤ 100000000) : bdL (joinL w x y) (B * B) := by
  have hbb : B * B ≤ 100000000 * 100000000 := Nat.mul_le_mul hB hB
  have h2b : 2 * B ≤ B * B := Nat.mul_le_mul_right B h2
  have b1 : bdL x (B * B) := bd_mono hx (by omega)
  have b2 : bdL y (B * B) := bd_mono hy (by omega)
  unfold joinL
  split
  · exact bd_mono (bd_add hx hy (by omega)) (by omega)
  · split
    · exact bd_mono (bd_sub hx hy (by omega)) (by omega)
    · split
      · exact (mul_I hx hy (by omega)).2
      · split
        · have m := (mul_I hx hy (by omega)).2
          have r := rnd_I m (b := 1000) (by decide) (by omega)
          obtain ⟨m1, m2⟩ := m
          refine ⟨?_, ?_⟩ <;> rw [r] <;> omega
        · split
          · split
            · exact b1
            · exact b2
          · split
            · exact b1
            · exact b2
/-- the numbers of formulas are small -/
def MO (τ : Mu) : Prop := ∀ e j, e < 7 → j < un τ 24 e → un τ 22 (10 * e + j) = 3 → ∃ k, k ≤ 6 ∧ τ.1 23 (10 * e + j) = nI k
section Eval
variable {τ : Mu} {p m : Nat}
theorem sing_bd {cm : Nat → Int64} {b h e j B : Nat} (hm : MO τ) (he : e < 7) (hj : j < un τ 24 e) (hb : b ≤ B) (hh : h ≤ B) (h6 : 6 ≤ B) (hB : B ≤ 100000000) (hc : ∀ i, bdL (cm i) B) : bdL (singL τ cm (lN b) (lN h) (10 * e + j)) B := by
  unfold singL
  split
  · exact bd_lN hb (by omega)
  · split
    · exact bd_lN hh (by omega)
    · split
      · rename_i q
        obtain ⟨k, hk, e1⟩ := hm e j he hj q
        rw [e1]
        have e2 : (nI k).toInt64.toInt = k := by rw [Int32.toInt_toInt64, nI_toInt (by omega)]
        exact ⟨by rw [e2]; omega, by rw [e2]; omega⟩
      · split
        · exact hc _
        · exact bd_lN (Nat.zero_le _) (by omega)
theorem form1 {cm : Nat → Int64} {b h : Int64} {e : Nat} (hf : fmOK τ e (un τ 24 e)) (h1 : un τ 24 e = 1) : un τ 22 (10 * e + 0) < 4 ∧ formL τ cm b h e = keptL (singL τ cm b h (10 * e + 0)) := by
  have w0 : un τ 22 (10 * e + 0) < 4 := by
    apply Classical.byContradiction
    intro z
    have := hf 0 (by omega) (by omega)
    exact absurd this (by show ¬ 2 ≤ 0; omega)
  refine ⟨w0, ?_⟩
  unfold formL
  rw [h1]
  show (if un τ 22 (10 * e + 0) < 4 then _ else _ : Nat → Int64) 0 = _
  rw [if_pos w0]
  exact pk_uLs ..
theorem fm_lo {e k D : Nat} (hf : fmOK τ e (un τ 24 e)) (hk : k < un τ 24 e) (hD : fmD τ e k = D) (h2 : D < 2) : un τ 22 (10 * e + k) < 4 ∧ fmD τ e (k + 1) = D + 1 := by
  have w : un τ 22 (10 * e + k) < 4 := by
    apply Classical.byContradiction
    intro z
    have := hf k hk (by omega)
    omega
  refine ⟨w, ?_⟩
  show (if un τ 22 (10 * e + k) < 4 then fmD τ e k + 1 else fmD τ e k - 1) = _
  rw [if_pos w, hD]
theorem fm_st {e k D : Nat} (hD : fmD τ e k = D) : (un τ 22 (10 * e + k) < 4 ∧ fmD τ e (k + 1) = D + 1) ∨ (4 ≤ un τ 22 (10 * e + k) ∧ fmD τ e (k + 1) = D - 1) := by
  show (_ ∧ (if un τ 22 (10 * e + k) < 4 then fmD τ e k + 1 else fmD τ e k - 1) = _) ∨ (_ ∧ (if un τ 22 (10 * e + k) < 4 then fmD τ e k + 1 else fmD τ e k - 1) = _)
  by_cases w : un τ 22 (10 * e + k) < 4
  · rw [if_pos w, hD]; exact .inl ⟨w, rfl⟩
  · rw [if_neg w, hD]; exact .inr ⟨by omega, rfl⟩
theorem fmP_s {cm : Nat → Int64} {b h : Int64} {e k D : Nat} (w : un τ 22 (10 * e + k) < 4) (hD : fmD τ e k = D) : fmP τ cm b h e (k + 1) = vp_updL (fmP τ cm b h e k) D (keptL (singL τ cm b h (10 * e + k))) := by
  show (if un τ 22 (10 * e + k) < 4 then _ else _ : Nat → Int64) = _
  rw [if_pos w, hD]
theorem fmP_j {cm : Nat → Int64} {b h : Int64} {e k D : Nat} (w : 4 ≤ un τ 22 (10 * e + k)) (hD : fmD τ e k = D) : fmP τ cm b h e (k + 1) = vp_updL (fmP τ cm b h e k) (D - 2) (keptL (joinL (un τ 22 (10 * e + k)) (fmP τ cm b h e k (D - 2)) (fmP τ cm b h e k (D - 1)))) := by
  show (if un τ 22 (10 * e + k) < 4 then _ else _ : Nat → Int64) = _
  rw [if_neg (by omega), hD]
theorem form3 {cm : Nat → Int64} {b h : Int64} {e : Nat} (hf : fmOK τ e (un τ 24 e) ∧ fmD τ e (un τ 24 e) = 1) (h3 : un τ 24 e = 3) : formL τ cm b h e = keptL (joinL (un τ 22 (10 * e + 2)) (keptL (singL τ cm b h (10 * e + 0))) (keptL (singL τ cm b h (10 * e + 1)))) := by
  obtain ⟨hf, hl⟩ := hf
  obtain ⟨w0, d1⟩ := fm_lo hf (k := 0) (D := 0) (by omega) rfl (by decide)
  have d1 : fmD τ e 1 = 1 := d1
  obtain ⟨w1, d2⟩ := fm_lo hf (k := 1) (D := 1) (by omega) d1 (by decide)
  have d2 : fmD τ e 2 = 2 := d2
  rw [h3] at hl
  unfold formL
  rw [h3]
  rcases fm_st (k := 2) (D := 2) d2 with ⟨w2, d3⟩ | ⟨w2, d3⟩
  · have d3 : fmD τ e 3 = 3 := d3
    omega
  · rw [fmP_j (k := 2) (D := 2) w2 d2, fmP_s (k := 1) (D := 1) w1 d1, fmP_s (k := 0) (D := 0) w0 rfl]
    show vp_updL _ 0 (keptL (joinL _ (vp_updL (vp_updL _ 0 _) 1 _ 0) (vp_updL (vp_updL _ 0 _) 1 _ 1))) 0 = _
    rw [pk_uLs, pk_uLn (by decide), pk_uLs, pk_uLs]
theorem form5 {cm : Nat → Int64} {b h : Int64} {e : Nat} (hf : fmOK τ e (un τ 24 e) ∧ fmD τ e (un τ 24 e) = 1) (h5 : un τ 24 e = 5) :
    formL τ cm b h e = keptL (joinL (un τ 22 (10 * e + 4)) (keptL (joinL (un τ 22 (10 * e + 2)) (keptL (singL τ cm b h (10 * e + 0))) (keptL (singL τ cm b h (10 * e + 1))))) (keptL (singL τ cm b h (10 * e + 3)))) ∨
    formL τ cm b h e = keptL (joinL (un τ 22 (10 * e + 4)) (keptL (singL τ cm b h (10 * e + 0))) (keptL (joinL (un τ 22 (10 * e + 3)) (keptL (singL τ cm b h (10 * e + 1))) (keptL (singL τ cm b h (10 * e + 2)))))) := by
  obtain ⟨hf, hl⟩ := hf
  obtain ⟨w0, d1⟩ := fm_lo hf (k := 0) (D := 0) (by omega) rfl (by decide)
  have d1 : fmD τ e 1 = 1 := d1
  obtain ⟨w1, d2⟩ := fm_lo hf (k := 1) (D := 1) (by omega) d1 (by decide)
  have d2 : fmD τ e 2 = 2 := d2
  rw [h5] at hl
  unfold formL
  rw [h5]
  rcases fm_st (k := 2) (D := 2) d2 with ⟨w2, d3⟩ | ⟨w2, d3⟩
  · have d3 : fmD τ e 3 = 3 := d3
    rcases fm_st (k := 3) (D := 3) d3 with ⟨w3, d4⟩ | ⟨w3, d4⟩
    · have d4 : fmD τ e 4 = 4 := d4
      rcases fm_st (k := 4) (D := 4) d4 with ⟨w4, d5⟩ | ⟨w4, d5⟩
      · have d5 : fmD τ e 5 = 5 := d5
        omega
      · have d5 : fmD τ e 5 = 3 := d5
        omega
    · have d4 : fmD τ e 4 = 2 := d4
      rcases fm_st (k := 4) (D := 2) d4 with ⟨w4, d5⟩ | ⟨w4, d5⟩
      · have d5 : fmD τ e 5 = 3 := d5
        omega
      · right
        rw [fmP_j (k := 4) (D := 2) w4 d4, fmP_j (k := 3) (D := 3) w3 d3, fmP_s (k := 2) (D := 2) w2 d2, fmP_s (k := 1) (D := 1) w1 d1, fmP_s (k := 0) (D := 0) w0 rfl]
        show vp_updL _ 0 (keptL (joinL _ (vp_updL (vp_updL (vp_updL (vp_updL _ 0 _) 1 _) 2 _) 1 (keptL (joinL _ (vp_updL (vp_updL (vp_updL _ 0 _) 1 _) 2 _ 1) (vp_updL (vp_updL (vp_updL _ 0 _) 1 _) 2 _ 2))) 0) (vp_updL (vp_updL (vp_updL (vp_updL _ 0 _) 1 _) 2 _) 1 (keptL (joinL _ (vp_updL (vp_updL (vp_updL _ 0 _) 1 _) 2 _ 1) (vp_updL (vp_updL (vp_updL _ 0 _) 1 _) 2 _ 2))) 1))) 0 = _
        simp only [pk_uLs, pk_uLn (show (0 : Nat) ≠ 1 by decide), pk_uLn (show (0 : Nat) ≠ 2 by decide), pk_uLn (show (1 : Nat) ≠ 2 by decide)]
  · have d3 : fmD τ e 3 = 1 := d3
    obtain ⟨w3, d4⟩ := fm_lo hf (k := 3) (D := 1) (by omega) d3 (by decide)
    have d4 : fmD τ e 4 = 2 := d4
    rcases fm_st (k := 4) (D := 2) d4 with ⟨w4, d5⟩ | ⟨w4, d5⟩
    · have d5 : fmD τ e 5 = 3 := d5
      omega
    · left
      rw [fmP_j (k := 4) (D := 2) w4 d4, fmP_s (k := 3) (D := 1) w3 d3, fmP_j (k := 2) (D := 2) w2 d2, fmP_s (k := 1) (D := 1) w1 d1, fmP_s (k := 0) (D := 0) w0 rfl]
      show vp_updL _ 0 (keptL (joinL _ (vp_updL (vp_updL (vp_updL (vp_updL _ 0 _) 1 _) 0 (keptL (joinL _ (vp_updL (vp_updL _ 0 _) 1 _ 0) (vp_updL (vp_updL _ 0 _) 1 _ 1)))) 1 _ 0) (vp_updL (vp_updL (vp_updL (vp_updL _ 0 _) 1 _) 0 (keptL (joinL _ (vp_updL (vp_updL _ 0 _) 1 _ 0) (vp_updL (vp_updL _ 0 _) 1 _ 1)))) 1 _ 1))) 0 = _
      simp only [pk_uLs, pk_uLn (show (0 : Nat) ≠ 1 by decide), pk_uLn (show (1 : Nat) ≠ 0 by decide)]
/-- a formula has an odd number of words -/
theorem fm_par {e : Nat} (hf : fmOK τ e (un τ 24 e)) : ∀ k, k ≤ un τ 24 e → fmD τ e k % 2 = k % 2
  | 0, _ => rfl
  | k + 1, hk => by
    have ih := fm_par hf k (by omega)
    rcases fm_st (τ := τ) (e := e) (k := k) rfl with ⟨_, d⟩ | ⟨w, d⟩
    · rw [d]; omega
    · have := hf k (by omega) w
      rw [d]; omega
theorem len_odd (hw : WF τ) {e : Nat} (he : e < un τ 26 26) : un τ 24 e % 2 = 1 := by
  obtain ⟨h1, h2⟩ := hw.fm e he
  have := fm_par h1 _ (Nat.le_refl _)
  omega
/-- the order has each element once -/
theorem arr_bit : ∀ k i, i < k → (arrD τ k).testBit (arrS τ (arrD τ i)) = true
  | 0, _, h => absurd h (Nat.not_lt_zero _)
  | k + 1, i, h => by
    show (arrD τ k ||| 2 ^ arrS τ (arrD τ k)).testBit _ = true
    rw [Nat.testBit_or]
    by_cases z : i = k
    · rw [z, Nat.testBit_two_pow_self, Bool.or_true]
    · rw [arr_bit k i (by omega), Bool.true_or]
theorem od_inj (hw : WF τ) {i k : Nat} (hi : i < k) (hk : k < un τ 26 26) : un τ 27 i ≠ un τ 27 k := by
  rw [hw.or i (by omega), hw.or k hk]
  intro e
  have h1 := arr_bit (τ := τ) k i hi
  have h2 := (arr_s hw.ac hw.ne.2 hk).2.2
  rw [e, h2] at h1
  cases h1
theorem arr_bits {x : Nat} : ∀ k, (arrD τ k).testBit x = true → ∃ i, i < k ∧ arrS τ (arrD τ i) = x
  | 0, h => by rw [show arrD τ 0 = 0 from rfl, Nat.zero_testBit] at h; cases h
  | k + 1, h => by
    have h1 : (arrD τ k ||| 2 ^ arrS τ (arrD τ k)).testBit x = true := h
    rw [Nat.testBit_or, Bool.or_eq_true] at h1
    rcases h1 with h1 | h1
    · obtain ⟨i, hi, e⟩ := arr_bits k h1
      exact ⟨i, by omega, e⟩
    · rw [Nat.testBit_two_pow] at h1
      exact ⟨k, by omega, of_decide_eq_true h1⟩
theorem od_all (hw : WF τ) {x : Nat} (hx : x < un τ 26 26) : ∃ k, k < un τ 26 26 ∧ un τ 27 k = x := by
  have hc := (arr_ok hw.ac hw.ne.2 _ (Nat.le_refl (un τ 26 26))).1
  have hb : (arrD τ (un τ 26 26)).testBit x = true := by
    apply Classical.byContradiction
    intro z
    have z2 : (arrD τ (un τ 26 26)).testBit x = false := by simpa using z
    have h := cnt_or z2 (un τ 26 26)
    rw [if_pos hx, hc] at h
    have := cnt_le (arrD τ (un τ 26 26) ||| 2 ^ x) (un τ 26 26)
    omega
  obtain ⟨i, hi, e⟩ := arr_bits _ hb
  exact ⟨i, hi, by rw [hw.or i hi, e]⟩
/-- what stands at place k of the order -/
def vI (τ : Mu) (p m k : Nat) : Int := (cmL τ p m (k + 1) (un τ 27 k)).toInt
def bsT (τ : Mu) (p m : Nat) : Nat := bsN τ p m (un τ 9 9)
def hrT (τ : Mu) (p m : Nat) : Nat := hrN τ p m (un τ 9 9) / 60
theorem cm_at {k : Nat} : cmL τ p m (k + 1) (un τ 27 k) = if (un τ 25 (un τ 27 k)).testBit p = true then formL τ (cmL τ p m k) (lN (bsT τ p m)) (lN (hrT τ p m)) (un τ 27 k) else lN 0 := pk_uLs ..
theorem cm_no {k j : Nat} (h : j ≠ un τ 27 k) : cmL τ p m (k + 1) j = cmL τ p m k j := pk_uLn h
theorem gE_s : ∀ k, k ≤ 6 → (gE τ p m k).toInt = sumZ (vI τ p m) k
  | 0, _ => rfl
  | k + 1, hk => by
    show (gE τ p m k + cmL τ p m (k + 1) (un τ 27 k)).toInt = sumZ (vI τ p m) k + vI τ p m k
    rw [bd_addI (gE_bd k (by omega)) (cmL_bd _ _) (by omega), gE_s k (by omega)]
    rfl
theorem vI_le (k : Nat) : vI τ p m k ≤ 100000000 := (cmL_bd (τ := τ) (p := p) (m := m) (k + 1) (un τ 27 k)).2
theorem bd_up {k B : Nat} {e : Nat} (h : ∀ j, bdL (cmL τ p m k j) B) (h1 : bdL (cmL τ p m (k + 1) (un τ 27 k)) B) : ∀ j, bdL (cmL τ p m (k + 1) j) B := fun j => by
  by_cases z : j = un τ 27 k
  · rw [z]; exact h1
  · rw [cm_no z]; exact h j
theorem step1 (hw : WF τ) (hm : MO τ) {B k : Nat} (hb : bsT τ p m ≤ B) (hh : hrT τ p m ≤ B) (h6 : 6 ≤ B) (hB : B ≤ 100000000) (hk : k < un τ 26 26) (h1 : un τ 24 (un τ 27 k) = 1) (hc : ∀ j, bdL (cmL τ p m k j) B) : ∀ j, bdL (cmL τ p m (k + 1) j) B := by
  refine bd_up (e := 0) hc ?_
  have he := (hw.od k hk).2
  have hne := hw.ne.2
  rw [cm_at]
  split
  · rw [(form1 (hw.fm _ he).1 h1).2]
    exact kept_bd (sing_bd hm (by omega) (by omega) hb hh h6 hB hc)
  · exact bd_lN (Nat.zero_le _) (by omega)
theorem step3 (hw : WF τ) (hm : MO τ) {B k : Nat} (hb : bsT τ p m ≤ B) (hh : hrT τ p m ≤ B) (h6 : 6 ≤ B) (hB : B ≤ 100000000) (hk : k < un τ 26 26) (h3 : un τ 24 (un τ 27 k) = 3) (hc : ∀ j, bdL (cmL τ p m k j) B) : ∀ j, bdL (cmL τ p m (k + 1) j) (B * B) := by
  have hBB : B ≤ B * B := Nat.le_mul_of_pos_left B (by omega)
  have hbb : B * B ≤ 100000000 * 100000000 := Nat.mul_le_mul hB hB
  refine bd_up (e := 0) (fun j => bd_mono (hc j) hBB) ?_
  have he := (hw.od k hk).2
  have hne := hw.ne.2
  rw [cm_at]
  split
  · rw [form3 (hw.fm _ he) h3]
    exact kept_bd (join_bd (kept_bd (sing_bd hm (by omega) (by omega) hb hh h6 hB hc)) (kept_bd (sing_bd hm (by omega) (by omega) hb hh h6 hB hc)) (by omega) hB)
  · exact bd_lN (Nat.zero_le _) (by omega)
/-- as long as only formulas of one word came -/
theorem ev1 (hw : WF τ) (hm : MO τ) {B : Nat} (hb : bsT τ p m ≤ B) (hh : hrT τ p m ≤ B) (h6 : 6 ≤ B) (hB : B ≤ 100000000) : ∀ k, k ≤ un τ 26 26 → (∀ i, i < k → un τ 24 (un τ 27 i) = 1) → ∀ j, bdL (cmL τ p m k j) B
  | 0, _, _ => fun _ => bd_0
  | k + 1, hk, h => step1 hw hm hb hh h6 hB (by omega) (h k (by omega)) (ev1 hw hm hb hh h6 hB k (by omega) (fun i hi => h i (by omega)))
/-- one formula of three words among those of one -/
theorem ev3 (hw : WF τ) (hm : MO τ) {B x : Nat} (hb : bsT τ p m ≤ B) (hh : hrT τ p m ≤ B) (h6 : 6 ≤ B) (hB : B * B ≤ 100000000) (hx : un τ 24 x = 3) (ho : ∀ e, e < un τ 26 26 → e ≠ x → un τ 24 e = 1) : ∀ k, k ≤ un τ 26 26 → (∀ j, bdL (cmL τ p m k j) B) ∨ ((∃ i, i < k ∧ un τ 27 i = x) ∧ ∀ j, bdL (cmL τ p m k j) (B * B))
  | 0, _ => .inl fun _ => bd_0
  | k + 1, hk => by
    have hBB : B ≤ B * B := Nat.le_mul_of_pos_left B (by omega)
    have he := (hw.od k (by omega)).2
    rcases ev3 hw hm hb hh h6 hB hx ho k (by omega) with h | ⟨⟨i, hi, e⟩, h⟩
    · by_cases z : un τ 27 k = x
      · exact .inr ⟨⟨k, by omega, z⟩, step3 hw hm hb hh h6 (by omega) (by omega) (by rw [z]; exact hx) h⟩
      · exact .inl (step1 hw hm hb hh h6 (by omega) (by omega) (ho _ he z) h)
    · have z : un τ 27 k ≠ x := fun z => od_inj hw hi (by omega) (e.trans z.symm)
      exact .inr ⟨⟨i, by omega, e⟩, step1 hw hm (by omega) (by omega) (by omega) hB (by omega) (ho _ he z) h⟩
/-- what all elements come to -/
theorem sumE1 (hw : WF τ) (hm : MO τ) {B : Nat} (hb : bsT τ p m ≤ B) (hh : hrT τ p m ≤ B) (h6 : 6 ≤ B) (hB : B ≤ 100000000) (h1 : ∀ e, e < un τ 26 26 → un τ 24 e = 1) : (gE τ p m (un τ 26 26)).toInt ≤ (un τ 26 26 : Int) * B := by
  rw [gE_s _ hw.ne.2]
  exact sumZ_bd fun k hk => (ev1 hw hm hb hh h6 hB (k + 1) (by omega) (fun i hi => h1 _ (hw.od i (by omega)).2) _).2
theorem sumE3 (hw : WF τ) (hm : MO τ) {B x : Nat} (hb : bsT τ p m ≤ B) (hh : hrT τ p m ≤ B) (h6 : 6 ≤ B) (hB : B * B ≤ 100000000) (hx : un τ 24 x = 3) (ho : ∀ e, e < un τ 26 26 → e ≠ x → un τ 24 e = 1) : (gE τ p m (un τ 26 26)).toInt ≤ (un τ 26 26 : Int) * ((B * B : Nat) : Int) := by
  rw [gE_s _ hw.ne.2]
  refine sumZ_bd fun k hk => ?_
  have hBB : B ≤ B * B := Nat.le_mul_of_pos_left B (by omega)
  rcases ev3 hw hm hb hh h6 hB hx ho (k + 1) (by omega) with h | ⟨_, h⟩
  · have := (h (un τ 27 k)).2
    show vI τ p m k ≤ _
    unfold vI
    omega
  · exact (h _).2
theorem sumET (hw : WF τ) : (gE τ p m (un τ 26 26)).toInt ≤ (un τ 26 26 : Int) * 100000000 := by
  rw [gE_s _ hw.ne.2]
  exact sumZ_bd fun k _ => vI_le k
end Eval
