/-! WHERE NOTHING BUT WORDS, ELEMENTS AND CLOSINGS WAS TOLD -/
def PZ (τ : Mu) : Prop := (∀ i, i < 432 → τ.1 30 i = 0) ∧ (∀ i, i < 72 → τ.1 31 i = -1) ∧ (∀ i, i < 144 → un τ 33 i = 0) ∧ (∀ i, i < 144 → τ.1 37 i = -1) ∧ un τ 44 44 = 0 ∧ (∀ i, i < 144 → τ.2 45 i = 0) ∧ un τ 13 13 = 0 ∧ un τ 17 17 = 0 ∧ un τ 9 9 = 3
section Pure
variable {τ : Mu} {p m q : Nat}
theorem pz_cr (h : PZ τ) (hq : q < 3) (hm : m < 24) : crN τ q m = 0 := by
  unfold crN lastO
  rw [lst_z (fun k hk => by
    show (if (0 : Nat) = 0 then decide (0 ≤ τ.1 31 (24 * q + k)) else _) = false
    rw [if_pos rfl, h.2.1 _ (by omega)]
    decide)]
theorem pz_pt (h : PZ τ) (hp : p < 6) (hm : m < 24) : ptN τ p m = 0 := by
  unfold ptN lastO
  rw [lst_z (fun k hk => by
    show hasB τ 2 (24 * p) k = false
    unfold hasB
    rw [if_neg (by decide), if_neg (by decide), if_pos rfl, h.2.2.2.1 _ (by omega)]
    decide)]
theorem pz_yr (h : PZ τ) {a : Nat} (ha : a + m < 144) (x : Int64) : yearL τ a m x = 0 := by
  unfold yearL lastO
  rw [lst_z (fun k hk => by
    show hasB τ 3 a k = false
    unfold hasB
    rw [if_neg (by decide), if_neg (by decide), if_neg (by decide), h.2.2.1 _ (by omega)]
    decide)]
theorem pz_co (h : PZ τ) (hq : q < 3) (hm : m < 24) : coL τ p m q = 0 := by
  unfold coL
  rw [pz_cr h hq hm, show lN 0 = 0 from rfl, Int64.mul_zero]
  decide
theorem pz_pn (h : PZ τ) (hp : p < 6) (hm : m < 24) : pnL τ p m = 0 := by
  unfold pnL
  rw [pz_pt h hp hm, show lN 0 = 0 from rfl, Int64.mul_zero]
  split
  · rfl
  · decide
theorem pz_du (hw : WF τ) (h : PZ τ) (hp : p < 6) (hq : q < 3) (hm : m < 24) : duL τ p m q = 0 := by
  have s := stN_le hw hp hm
  unfold duL dueM
  rw [pz_yr h (by omega), Int64.zero_mul]
  decide
theorem pz_ta (hw : WF τ) (h : PZ τ) (hp : p < 6) (hq : q < 3) (hm : m < 24) : taL τ p m q = 0 := by
  unfold taL
  rw [pz_du hw h hp hq hm]
  split
  · decide
  · rw [pz_du hw h hp hq (by omega)]; decide
theorem pz_nt (hw : WF τ) (h : PZ τ) (hp : p < 6) (hm : m < 24) : ntL τ p m = allL τ p m := by
  rw [ntL3, pz_pn h hp hm, pz_co h (by decide) hm, pz_co h (by decide) hm, pz_co h (by decide) hm, pz_ta hw h hp (by decide) hm, pz_ta hw h hp (by decide) hm, pz_ta hw h hp (by decide) hm]
  simp
theorem pz_lf (h : PZ τ) {nt : Int64} {had : Nat → Int64} : ∀ r, lfR τ p m nt had r = nt
  | 0 => rfl
  | r + 1 => by
    show lfK τ p m nt had r (lfR τ p m nt had r) (un τ 44 44) = nt
    rw [h.2.2.2.2.1, pz_lf h r]
    rfl
theorem bk_0 (l : Int64) : bkV l 0 = 0 := by
  unfold bkV
  split
  · rfl
  · rename_i c
    rw [if_neg (by rw [Int64.lt_iff_toInt_lt]; rw [Int64.le_iff_toInt_le, z0I] at c; have e : (0 : Int64).toInt = 0 := rfl; omega)]
theorem pz_ow (h : PZ τ) (hp : p < 6) : ∀ m, m ≤ 24 → owL τ p m = 0
  | 0, _ => rfl
  | m + 1, hm => by
    show (owL τ p m + τ.2 45 (24 * p + m)) - bkV (lvL τ p m) (owL τ p m + τ.2 45 (24 * p + m)) = 0
    rw [pz_ow h hp m (by omega), h.2.2.2.2.2.1 _ (by omega), Int64.add_zero, bk_0]
    decide
theorem pz_py (hw : WF τ) (h : PZ τ) (hp : p < 6) (hm : m < 24) : pyL τ p m = allL τ p m := by
  have e : lvL τ p m = allL τ p m := (pz_lf h 10).trans (pz_nt hw h hp hm)
  unfold pyL bkL
  rw [pz_ow h hp m (by omega), h.2.2.2.2.2.1 _ (by omega), Int64.add_zero, bk_0, e, Int64.sub_zero]
theorem pz_al (hw : WF τ) (h : PZ τ) (hp : p < 6) (hm : m < 24) : (pyL τ p m).toInt = bsT τ p m + (gE τ p m (un τ 26 26)).toInt := by
  rw [pz_py hw h hp hm, al_I hw hp hm, h.1 _ (by omega), h.1 _ (by omega), h.1 _ (by omega), show (0 : Int32).toInt = 0 from rfl]
  omega
/-- the first three contracts' days and pays -/
def PK (τ : Mu) : Prop := ∀ c, c < 3 → un τ 2 c ≤ 59 ∧ 300 ≤ un τ 3 c ∧ ∃ P, 1000 ≤ P ∧ P ≤ 3999 ∧ ∀ d, un τ 2 c ≤ d → d < 720 → un τ 7 (720 * c + d) = P
theorem pz_bs (hw : WF τ) (h : PZ τ) (ho : OWN τ) (hp : p < 3) : bsT τ p m = baseN τ (ltN τ) p m := by
  have o := ho.2.1
  unfold bsT bsN
  rw [h.2.2.2.2.2.2.2.2]
  show 0 + (if un τ 0 (0 + 0) = p then baseN τ (ltN τ) (0 + 0) m else 0) + (if un τ 0 (0 + 1) = p then baseN τ (ltN τ) (0 + 1) m else 0) + (if un τ 0 (0 + 2) = p then baseN τ (ltN τ) (0 + 2) m else 0) = _
  rw [show 0 + 0 = 0 from rfl, show 0 + 1 = 1 from rfl, show 0 + 2 = 2 from rfl, o 0 (by decide), o 1 (by decide), o 2 (by decide)]
  rcases (show p = 0 ∨ p = 1 ∨ p = 2 by omega) with rfl | rfl | rfl <;> simp
def dyC (f t m : Nat) : Nat := sumN (fun d => if f ≤ d ∧ d ≤ t then 1 else 0) (30 * m) 30
theorem sumN_mul (P : Nat) (g : Nat → Nat) (a : Nat) : ∀ n, sumN (fun d => P * g d) a n = P * sumN g a n
  | 0 => rfl
  | n + 1 => by show sumN _ a n + P * g (a + n) = P * (sumN g a n + g (a + n)); rw [sumN_mul P g a n, Nat.mul_add]
theorem sumN_cg0 {f g : Nat → Nat} {a : Nat} : ∀ {n : Nat}, (∀ i, i < n → f (a + i) = g (a + i)) → sumN f a n = sumN g a n
  | 0, _ => rfl
  | n + 1, h => by show sumN f a n + f (a + n) = sumN g a n + g (a + n); rw [sumN_cg0 (n := n) (fun i hi => h i (by omega)), h n (by omega)]
theorem pz_base (hw : WF τ) (h : PZ τ) {c : Nat} (hc : c < 3) (hm : m < 24) (lt : Nat → Nat) : (un τ 4 c = 1 → baseN τ lt c m = 0) ∧ ∀ P, (∀ d, un τ 2 c ≤ d → d < 720 → un τ 7 (720 * c + d) = P) → un τ 4 c ≠ 1 → baseN τ lt c m = rN (P * dyC (un τ 2 c) (un τ 3 c) m) 30 := by
  have h9 : c < un τ 9 9 := by rw [h.2.2.2.2.2.2.2.2]; exact hc
  have m0 : ∀ d, d < 720 → un τ 8 (720 * c + d) = 0 := fun d hd => by
    have := mins_s hw h9 hd
    rw [h.2.2.2.2.2.2.1] at this
    omega
  have hW : baseW τ c m 103 = 0 := sz_N fun w hw1 => by
    show (if lastD (0 + w) / 30 = m then overP τ c (0 + w) else 0) = 0
    rw [Nat.zero_add]
    split
    · have hE : 7 * w + ovE w ≤ 720 ∧ ovE w ≤ 7 := by unfold ovE; omega
      have o : overN τ c w = 0 := by
        unfold overN ovD ovA
        rw [sz_N (f := fun d => un τ 8 (720 * c + d) - un τ 5 c) (fun i hi => by show un τ 8 (720 * c + (7 * w + i)) - _ = 0; rw [m0 _ (by omega), Nat.zero_sub]), sz_N (f := fun d => un τ 8 (720 * c + d)) (fun i hi => m0 _ (by omega)), Nat.zero_sub]
        rfl
      unfold overP
      rw [o, Nat.mul_zero, rq_0 (by decide)]
    · rfl
  have e : baseN τ lt c m = baseD τ c m := by
    unfold baseN
    rw [hW, h.2.2.2.2.2.2.2.1]
    rfl
  have hf := (hw.cf c h9).2
  have ht := (hw.ct c h9).2
  have hft := hw.cft c h9
  rw [e]
  unfold baseD
  constructor
  · intro h4
    rw [if_pos h4, sz_N (f := dayN τ c) (fun i hi => by
      unfold dayN
      rw [if_pos h4, m0 _ (by omega), Nat.zero_mul]), rq_0 (by decide)]
  · intro P k5 h4
    rw [if_neg h4, show P * dyC (un τ 2 c) (un τ 3 c) m = sumN (fun d => P * (if un τ 2 c ≤ d ∧ d ≤ un τ 3 c then 1 else 0)) (30 * m) 30 from (sumN_mul P _ _ 30).symm]
    congr 1
    refine sumN_cg0 fun i hi => ?_
    unfold dayN isOfN
    rw [if_neg h4]
    by_cases z : un τ 2 c ≤ 30 * m + i ∧ 30 * m + i ≤ un τ 3 c
    · rw [if_pos (decide_eq_true z), if_pos z, Nat.mul_one]
      unfold payD
      rw [if_neg (by omega), if_neg (by omega)]
      exact k5 _ z.1 (by omega)
    · rw [if_neg (by simpa using z), if_neg z, Nat.mul_zero]
theorem dy_le (f t m : Nat) : dyC f t m ≤ 30 := by
  have h := sumN_le (f := fun d => if f ≤ d ∧ d ≤ t then 1 else 0) (a := 30 * m) (b := 1) (n := 30) (fun i _ => by show (if _ then 1 else 0) ≤ 1; split <;> omega)
  unfold dyC; omega
theorem dy_full {f t m : Nat} (h1 : f ≤ 30 * m) (h2 : 30 * m + 29 ≤ t) : dyC f t m = 30 := by
  have e : dyC f t m = sumN (fun _ => 1) (30 * m) 30 := sumN_cg0 fun i hi => if_pos ⟨by omega, by omega⟩
  rw [e]; rfl
theorem dy_no {f t m : Nat} (h1 : 30 * m + 30 ≤ f) : dyC f t m = 0 := sz_N fun i hi => if_neg fun z => by omega
/-- the bases of a person by months -/
theorem pz_b (hw : WF τ) (h : PZ τ) (ho : OWN τ) (hk : PK τ) (hp : p < 3) : (∀ m, m < 24 → bsT τ p m = 0) ∨ ∃ P, 1000 ≤ P ∧ P ≤ 3999 ∧ (∀ m, m < 24 → ∃ d, d ≤ 30 ∧ bsT τ p m = rN (P * d) 30) ∧ ((∀ m, 1 ≤ m → m ≤ 9 → bsT τ p m = P) ∨ bsT τ p 0 = 0) := by
  obtain ⟨k1, k2, P, k3, k4, k5⟩ := hk p hp
  by_cases h4 : un τ 4 p = 1
  · exact .inl fun m hm => by rw [pz_bs hw h ho hp]; exact (pz_base hw h hp hm (ltN τ)).1 h4
  · right
    have e : ∀ m, m < 24 → bsT τ p m = rN (P * dyC (un τ 2 p) (un τ 3 p) m) 30 := fun m hm => by rw [pz_bs hw h ho hp]; exact (pz_base hw h hp hm (ltN τ)).2 P k5 h4
    refine ⟨P, k3, k4, fun m hm => ⟨_, dy_le _ _ _, e m hm⟩, ?_⟩
    by_cases z : un τ 2 p ≤ 29
    · left
      intro m h1 h9
      rw [e m (by omega), dy_full (by omega) (by omega)]
      unfold rN
      omega
    · right
      rw [e 0 (by decide), dy_no (by omega), Nat.mul_zero, rq_0 (by decide)]
end Pure
