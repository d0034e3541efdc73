/-! THE REFERENCE: element -/
def elB (τ : Mu) (x : Int32) : Bool := decide (fmD τ 6 (un τ 24 6) = 1) && !(rgR τ x.toNatClampNeg 7).testBit x.toNatClampNeg
def cpS (τ : Mu) (c n : Nat) : Mu := (fun f x => if (f = 22 ∨ f = 23) ∧ 10 * c ≤ x ∧ x < 10 * c + n then τ.1 f (60 + (x - 10 * c)) else τ.1 f x, τ.2)
theorem cpS_o (τ : Mu) (c n f x : Nat) (h : ¬ (10 * c ≤ x ∧ x < 10 * c + n)) : (cpS τ c n).1 f x = τ.1 f x := if_neg (fun q => h q.2)
theorem cpS_i (τ : Mu) (c n f k : Nat) (hf : f = 22 ∨ f = 23) (h : k < n) : (cpS τ c n).1 f (10 * c + k) = τ.1 f (60 + k) := by
  show (if (f = 22 ∨ f = 23) ∧ 10 * c ≤ 10 * c + k ∧ 10 * c + k < 10 * c + n then τ.1 f (60 + (10 * c + k - 10 * c)) else τ.1 f (10 * c + k)) = _
  rw [if_pos ⟨hf, by omega, by omega⟩, Nat.add_sub_cancel_left]
def elS (τ : Mu) (c d : Nat) : Mu := sI (sI (sI (sI (cpS τ c 10) 24 c (nI (un τ 24 6))) 24 6 (nI 0)) 25 c (nI d)) 26 26 (nI (un τ 26 26 + (if c = un τ 26 26 then 1 else 0)))
def elU (τ : Mu) (c d : Nat) : Mu := arU (elS τ c d) (un τ 26 26 + (if c = un τ 26 26 then 1 else 0))
theorem elS_22 (τ : Mu) (c d x : Nat) : (elS τ c d).1 22 x = (cpS τ c 10).1 22 x := rfl
theorem elS_23 (τ : Mu) (c d x : Nat) : (elS τ c d).1 23 x = (cpS τ c 10).1 23 x := rfl
theorem elS_24 (τ : Mu) (c d x : Nat) : (elS τ c d).1 24 x = if x = 6 then nI 0 else if x = c then nI (un τ 24 6) else τ.1 24 x := rfl
theorem elS_26 (τ : Mu) (c d : Nat) : (elS τ c d).1 26 26 = nI (un τ 26 26 + (if c = un τ 26 26 then 1 else 0)) := rfl
theorem elS_n {τ : Mu} (hw : WF τ) {c d : Nat} : un (elS τ c d) 26 26 = un τ 26 26 + (if c = un τ 26 26 then 1 else 0) := un_of (elS_26 τ c d) (by have := hw.ne.2; split <;> omega)
theorem elS_lt {τ : Mu} (hw : WF τ) {c d : Nat} (hc : c ≤ un τ 26 26) (h6 : c < 6) : un (elS τ c d) 26 26 ≤ 6 ∧ (∀ e, e < un (elS τ c d) 26 26 → e ≠ c → e < un τ 26 26) := by
  rw [elS_n hw]
  have := hw.ne.2
  refine ⟨by split <;> omega, fun e he hne => ?_⟩
  by_cases z : c = un τ 26 26
  · rw [if_pos z] at he; omega
  · rw [if_neg z] at he; omega
theorem elS_elc {τ : Mu} (hw : WF τ) {c d : Nat} (h6 : c < 6) : un (elS τ c d) 24 c = un τ 24 6 := un_of (by rw [elS_24, if_neg (by omega), if_pos rfl]) (by have := (hw.el 6 (by omega)).2; omega)
theorem elS_el6 {τ : Mu} {c d : Nat} : un (elS τ c d) 24 6 = 0 := un_of (by rw [elS_24, if_pos rfl]) (by decide)
theorem elS_elo {τ : Mu} {c d e : Nat} (h : e ≠ c) (h6 : e ≠ 6) : un (elS τ c d) 24 e = un τ 24 e := un_cg (by rw [elS_24, if_neg h6, if_neg h])
theorem elS_rowc {τ : Mu} {c d f k : Nat} (hf : f = 22 ∨ f = 23) (hk : k < 10) : (elS τ c d).1 f (10 * c + k) = τ.1 f (60 + k) := by
  rcases hf with rfl | rfl
  · rw [elS_22]; exact cpS_i τ c 10 22 k (.inl rfl) hk
  · rw [elS_23]; exact cpS_i τ c 10 23 k (.inr rfl) hk
theorem elS_rowo {τ : Mu} {c d f e k : Nat} (hf : f = 22 ∨ f = 23) (hk : k < 10) (h : e ≠ c) : (elS τ c d).1 f (10 * e + k) = τ.1 f (10 * e + k) := by
  rcases hf with rfl | rfl
  · rw [elS_22]; exact cpS_o τ c 10 22 _ (by omega)
  · rw [elS_23]; exact cpS_o τ c 10 23 _ (by omega)
theorem needK_sh {τ σ : Mu} {a b : Nat} : ∀ {k : Nat}, (∀ j, j < k → σ.1 22 (10 * a + j) = τ.1 22 (10 * b + j) ∧ σ.1 23 (10 * a + j) = τ.1 23 (10 * b + j)) → needK σ a k = needK τ b k
  | 0, _ => rfl
  | k + 1, h => by
    have ih := needK_sh (τ := τ) (σ := σ) (a := a) (b := b) (k := k) (fun j hj => h j (by omega))
    unfold needK un
    rw [ih, (h k (by omega)).1, (h k (by omega)).2]
theorem fmD_sh {τ σ : Mu} {a b : Nat} : ∀ {k : Nat}, (∀ j, j < k → σ.1 22 (10 * a + j) = τ.1 22 (10 * b + j)) → fmD σ a k = fmD τ b k
  | 0, _ => rfl
  | k + 1, h => by
    have ih := fmD_sh (τ := τ) (σ := σ) (a := a) (b := b) (k := k) (fun j hj => h j (by omega))
    unfold fmD un
    rw [ih, h k (by omega)]
theorem elS_nc {τ : Mu} (hw : WF τ) {c d : Nat} (h6 : c < 6) : needN (elS τ c d) c = needN τ 6 := by
  have := (hw.el 6 (by omega)).2
  unfold needN
  rw [elS_elc hw h6]
  exact needK_sh (fun j hj => ⟨elS_rowc (.inl rfl) (by omega), elS_rowc (.inr rfl) (by omega)⟩)
theorem elS_no {τ : Mu} (hw : WF τ) {c d e : Nat} (h : e ≠ c) (h6 : e < 6) : needN (elS τ c d) e = needN τ e := by
  have := (hw.el e (by omega)).2
  unfold needN
  rw [elS_elo h (by omega)]
  exact needK_sh (fun j hj => ⟨elS_rowo (.inl rfl) (by omega) h, elS_rowo (.inr rfl) (by omega) h⟩)
theorem elS_e {τ : Mu} (hw : WF τ) {c d : Nat} (hc : c ≤ un τ 26 26) (h6 : c < 6) : WFe (elS τ c d) := by
  have hl := elS_lt hw (d := d) hc h6
  have h10 := (hw.el 6 (by omega)).2
  refine ⟨okN_of (elS_26 τ c d) (by have := hw.ne.2; split <;> omega) (by decide), fun e he => ?_, fun e k he hk => ?_, fun e k he hk h2 => ?_⟩
  · by_cases z : e = c
    · subst z; exact okN_of (by rw [elS_24, if_neg (by omega), if_pos rfl]) h10 (by decide)
    · by_cases y : e = 6
      · subst y; exact okN_of (by rw [elS_24, if_pos rfl]) (by decide) (by decide)
      · exact okN_cg (by rw [elS_24, if_neg y, if_neg z]) (hw.el e he)
  · by_cases z : e = c
    · subst z; rw [elS_elc hw h6] at hk
      have h := hw.ew 6 k (by omega) hk
      unfold okN un at h ⊢
      rw [elS_rowc (.inl rfl) (by omega)]; exact h
    · by_cases y : e = 6
      · subst y; rw [elS_el6] at hk; exact absurd hk (Nat.not_lt_zero _)
      · rw [elS_elo z y] at hk
        have := (hw.el e he).2
        exact okN_cg (elS_rowo (.inl rfl) (by omega) z) (hw.ew e k he hk)
  · by_cases z : e = c
    · subst z; rw [elS_elc hw h6] at hk
      have e1 : un (elS τ e d) 22 (10 * e + k) = un τ 22 (10 * 6 + k) := by unfold un; rw [elS_rowc (.inl rfl) (by omega)]
      rw [e1] at h2
      have h := hw.en 6 k (by omega) hk h2
      unfold okN un at h ⊢
      rw [elS_rowc (.inr rfl) (by omega)]; exact h
    · by_cases y : e = 6
      · subst y; rw [elS_el6] at hk; exact absurd hk (Nat.not_lt_zero _)
      · rw [elS_elo z y] at hk
        have := (hw.el e he).2
        rw [un_cg (elS_rowo (.inl rfl) (by omega) z)] at h2
        exact okN_cg (elS_rowo (.inr rfl) (by omega) z) (hw.en e k he hk h2)
/-- the closure -/
theorem rgK_sub {τ : Mu} {c s : Nat} {i : Nat} : ∀ e, s.testBit i = true → (rgK τ c s e).testBit i = true
  | 0, h => h
  | e + 1, h => by unfold rgK; rw [Nat.testBit_or, rgK_sub e h]; rfl
theorem rgK_mono {τ : Mu} {c s : Nat} {i : Nat} {a : Nat} : ∀ b, (rgK τ c s a).testBit i = true → a ≤ b → (rgK τ c s b).testBit i = true
  | 0, h, hb => by rw [show a = 0 by omega] at h; exact h
  | b + 1, h, hb => by
    by_cases z : a = b + 1
    · subst z; exact h
    · unfold rgK; rw [Nat.testBit_or, rgK_mono b h (by omega)]; rfl
theorem rgK_step {τ : Mu} {c s e i : Nat} (he : e < 6) (hs : s.testBit e = true) (hc : e ≠ c) (hn : e < un τ 26 26) (hi : (needN τ e).testBit i = true) : (rgK τ c s 6).testBit i = true := by
  refine rgK_mono (a := e + 1) 6 ?_ (by omega)
  unfold rgK
  rw [Nat.testBit_or, if_pos ⟨rgK_sub e hs, hc, hn⟩, hi, Bool.or_true]
def clo (τ : Mu) (c S : Nat) : Prop := ∀ e, e < 6 → S.testBit e = true → e ≠ c → e < un τ 26 26 → ∀ i, (needN τ e).testBit i = true → S.testBit i = true
theorem cnt_le (D n : Nat) : cntN D n ≤ n := by
  have h := sumN_le (f := fun i => if D.testBit i = true then 1 else 0) (a := 0) (b := 1) (n := n) (fun i hi => by show (if D.testBit (0 + i) = true then 1 else 0) ≤ 1; split <;> omega)
  unfold cntN; omega
theorem cnt_sub {A B : Nat} (h : ∀ i, A.testBit i = true → B.testBit i = true) : ∀ n, cntN A n ≤ cntN B n ∧ (cntN A n = cntN B n → ∀ i, i < n → B.testBit i = true → A.testBit i = true)
  | 0 => ⟨Nat.le_refl _, fun _ i hi => absurd hi (Nat.not_lt_zero _)⟩
  | n + 1 => by
    obtain ⟨h1, h2⟩ := cnt_sub h n
    unfold cntN at h1 h2 ⊢
    rw [sumN_1, sumN_1]
    by_cases za : A.testBit n = true
    · rw [if_pos za, if_pos (h n za)]
      exact ⟨by omega, fun q i hi hb => by by_cases z : i = n; (rw [z]; exact za); exact h2 (by omega) i (by omega) hb⟩
    · rw [if_neg za]
      by_cases zb : B.testBit n = true
      · rw [if_pos zb]; exact ⟨by omega, fun q => by omega⟩
      · rw [if_neg zb]; exact ⟨by omega, fun q i hi hb => by by_cases z : i = n; (rw [z] at hb; exact absurd hb zb); exact h2 (by omega) i (by omega) hb⟩
theorem rg_eq {τ : Mu} (hw : WFe τ) {c r : Nat} (h : cntN (rgR τ c r) 6 = cntN (rgR τ c (r + 1)) 6) : rgR τ c (r + 1) = rgR τ c r := by
  apply Nat.eq_of_testBit_eq
  intro i
  have hs : ∀ i, (rgR τ c r).testBit i = true → (rgR τ c (r + 1)).testBit i = true := fun i hi => rgK_sub 6 hi
  by_cases hi : i < 6
  · cases z : (rgR τ c r).testBit i with
    | true => exact hs i z
    | false =>
      cases y : (rgR τ c (r + 1)).testBit i with
      | false => rfl
      | true => rw [(cnt_sub hs 6).2 h i hi y] at z; cases z
  · rw [Nat.testBit_lt_two_pow (Nat.lt_of_lt_of_le (rgR_lt hw (r + 1)) (Nat.pow_le_pow_right (by decide) (by omega))), Nat.testBit_lt_two_pow (Nat.lt_of_lt_of_le (rgR_lt hw r) (Nat.pow_le_pow_right (by decide) (by omega)))]
theorem rg_st {τ : Mu} {c r : Nat} (h : rgR τ c (r + 1) = rgR τ c r) : ∀ k, rgR τ c (r + k) = rgR τ c r
  | 0 => rfl
  | k + 1 => by
    show rgK τ c (rgR τ c (r + k)) 6 = _
    rw [rg_st h k]; exact h
theorem rg_fix {τ : Mu} (hw : WFe τ) (c : Nat) : rgR τ c 8 = rgR τ c 7 := by
  have key : ∀ r, r ≤ 7 → (∃ j, j ≤ 6 ∧ rgR τ c (j + 1) = rgR τ c j) ∨ r ≤ cntN (rgR τ c r) 6 := by
    intro r
    induction r with
    | zero => intro _; exact .inr (Nat.zero_le _)
    | succ r ih =>
      intro hr
      rcases ih (by omega) with h | h
      · exact .inl h
      · by_cases z : cntN (rgR τ c r) 6 = cntN (rgR τ c (r + 1)) 6
        · exact .inl ⟨r, by omega, rg_eq hw z⟩
        · have := (cnt_sub (A := rgR τ c r) (B := rgR τ c (r + 1)) (fun i hi => rgK_sub 6 hi) 6).1
          exact .inr (by omega)
  rcases key 7 (Nat.le_refl _) with ⟨j, hj, h⟩ | h
  · have a := rg_st h (8 - j)
    have b := rg_st h (7 - j)
    rw [show j + (8 - j) = 8 by omega] at a
    rw [show j + (7 - j) = 7 by omega] at b
    rw [a, b]
  · have := cnt_le (rgR τ c 7) 6; omega
theorem rg_clo {τ : Mu} (hw : WFe τ) (c : Nat) : clo τ c (rgR τ c 7) := fun e he hs hc hn i hi => by
  have h := rgK_step (τ := τ) (c := c) he hs hc hn hi
  rw [show rgK τ c (rgR τ c 7) 6 = rgR τ c 7 from rg_fix hw c] at h
  exact h
theorem rg_base {τ : Mu} {c i : Nat} (h : (needN τ 6).testBit i = true) : ∀ r, (rgR τ c r).testBit i = true
  | 0 => h
  | r + 1 => rgK_sub 6 (rg_base h r)
theorem sumN_mem {f : Nat → Nat} : ∀ {n : Nat} {i : Nat}, i < n → f i ≤ sumN f 0 n
  | 0, _, h => absurd h (Nat.not_lt_zero _)
  | n + 1, i, h => by
    rw [sumN_1]
    by_cases z : i = n
    · subst z; omega
    · have := sumN_mem (f := f) (n := n) (i := i) (by omega); omega
theorem elS_ac {τ : Mu} (hw : WF τ) {c d : Nat} (hc : c ≤ un τ 26 26) (h6 : c < 6) (hr : (rgR τ c 7).testBit c = false) : acyc (elS τ c d) := by
  obtain ⟨rk, hk⟩ := hw.ac
  have hcl := rg_clo hw.e c
  have hn6 := hw.ne.2
  have hl := elS_lt hw (d := d) hc h6
  have hB : ∀ e, e < 6 → rk e < sumN rk 0 6 + 1 := fun e he => by have := sumN_mem (f := rk) (n := 6) he; omega
  refine ⟨fun e => if e = c then sumN rk 0 6 + 1 else if (rgR τ c 7).testBit e = true then rk e else rk e + (sumN rk 0 6 + 1) + 1, fun e f he hf hn => ?_⟩
  show (if f = c then sumN rk 0 6 + 1 else if (rgR τ c 7).testBit f = true then rk f else rk f + (sumN rk 0 6 + 1) + 1) < (if e = c then sumN rk 0 6 + 1 else if (rgR τ c 7).testBit e = true then rk e else rk e + (sumN rk 0 6 + 1) + 1)
  by_cases ze : e = c
  · subst ze
    rw [elS_nc hw h6] at hn
    have hfs := rg_base (τ := τ) (c := e) hn 7
    have hfc : f ≠ e := fun z => by rw [z, hr] at hfs; cases hfs
    rw [if_neg hfc, if_pos hfs, if_pos rfl]
    exact hB f (by omega)
  · have he2 := hl.2 e he ze
    rw [elS_no hw ze (by omega)] at hn
    rw [if_neg ze]
    by_cases zf : f = c
    · rw [if_pos zf]
      by_cases ye : (rgR τ c 7).testBit e = true
      · have := hcl e (by omega) ye ze he2 f hn
        rw [zf, hr] at this; cases this
      · rw [if_neg ye]; omega
    · have hf2 := hl.2 f hf zf
      have h := hk e f he2 hf2 hn
      rw [if_neg zf]
      by_cases ye : (rgR τ c 7).testBit e = true
      · rw [if_pos (hcl e (by omega) ye ze he2 f hn), if_pos ye]; exact h
      · rw [if_neg ye]; split <;> omega


