/-! BASES, at most -/
theorem rq_le {a b B : Nat} (hb : 0 < b) (h : 2 * a + b < 2 * b * (B + 1)) : rN a b ≤ B := by
  unfold rN
  have : (2 * a + b) / (2 * b) < B + 1 := Nat.div_lt_of_lt_mul h
  omega
theorem rq_mono {a a' b : Nat} (h : a ≤ a') : rN a b ≤ rN a' b := Nat.div_le_div_right (by omega)
theorem rq_0 {b : Nat} (hb : 0 < b) : rN 0 b = 0 := by
  have := rq_le (a := 0) (b := b) (B := 0) hb (by omega)
  omega
theorem sz_N {f : Nat → Nat} {a : Nat} : ∀ {n : Nat}, (∀ i, i < n → f (a + i) = 0) → sumN f a n = 0
  | 0, _ => rfl
  | n + 1, h => by show sumN f a n + f (a + n) = 0; rw [sz_N (n := n) (fun i hi => h i (by omega)), h n (by omega)]
theorem sumN_if {c : Nat → Bool} {f : Nat → Nat} {B a : Nat} : ∀ {n : Nat}, (∀ i, i < n → c (a + i) = true → f (a + i) ≤ B) → sumN (fun i => if c i = true then f i else 0) a n ≤ B * sumN (fun i => if c i = true then 1 else 0) a n
  | 0, _ => Nat.zero_le _
  | n + 1, h => by
    have ih := sumN_if (n := n) (fun i hi => h i (by omega))
    show sumN _ a n + (if c (a + n) = true then f (a + n) else 0) ≤ B * (sumN _ a n + (if c (a + n) = true then 1 else 0))
    rw [Nat.mul_add]
    by_cases z : c (a + n) = true
    · have := h n (by omega) z
      rw [if_pos z, if_pos z]; omega
    · rw [if_neg z, if_neg z]; omega
/-- the pays of contracts are small -/
def PYS (τ : Mu) : Prop := ∀ c d, c < un τ 9 9 → d < 720 → un τ 7 (720 * c + d) ≤ 4999
section Base
variable {τ : Mu} {lt : Nat → Nat} {c m : Nat}
theorem payD_s (hw : WF τ) (hp : PYS τ) (hc : c < un τ 9 9) {d : Nat} (hd : d < 720) : payD τ c d ≤ 4999 := by
  have h2 := (hw.cf c hc).2
  have h3 := (hw.ct c hc).2
  exact hp c _ hc (by split; omega; split <;> omega)
theorem mins_s (hw : WF τ) (hc : c < un τ 9 9) {d : Nat} (hd : d < 720) : un τ 8 (720 * c + d) ≤ 1440 * un τ 13 13 := (hw.mn _ (by have := hw.nc.2; omega)).2
theorem bd_D (hw : WF τ) (hp : PYS τ) (hc : c < un τ 9 9) (hm : m < 24) : baseD τ c m ≤ 5000 + 3599281 * un τ 13 13 := by
  unfold baseD
  have hS := (hw.sh).2
  by_cases h4 : un τ 4 c = 1
  · rw [if_pos h4]
    have h := sumN_le (f := dayN τ c) (a := 30 * m) (b := 1440 * un τ 13 13 * 4999) (n := 30) (fun i hi => by
      unfold dayN
      rw [if_pos h4]
      exact Nat.mul_le_mul (mins_s hw hc (by omega)) (payD_s hw hp hc (by omega)))
    exact rq_le (by decide) (by omega)
  · rw [if_neg h4]
    have h := sumN_le (f := dayN τ c) (a := 30 * m) (b := 4999) (n := 30) (fun i hi => by
      unfold dayN
      rw [if_neg h4]
      split
      · exact payD_s hw hp hc (by omega)
      · exact Nat.zero_le _)
    exact rq_le (by decide) (by omega)
theorem bd_oP (hw : WF τ) (hp : PYS τ) (hc : c < un τ 9 9) {w : Nat} (hwk : w < 103) : overP τ c w ≤ 419917 * un τ 13 13 := by
  have hl : lastD w < 720 := by unfold lastD; split <;> omega
  have hE : 7 * w + ovE w ≤ 720 ∧ ovE w ≤ 7 := by unfold ovE; omega
  have hh : hourN τ c (lastD w) ≤ 4999 := by
    unfold hourN
    have := payD_s hw hp hc hl
    split
    · omega
    · have hn := hw.cn0 c hc
      refine rq_le (by omega) ?_
      have : 2 * (30 * un τ 5 c) * (4999 + 1) ≥ 2 * (30 * 60) * 5000 := Nat.mul_le_mul (by omega) (Nat.le_refl _)
      have h30 : (30 * un τ 5 c) ≤ 18000 := by have := (hw.cn c hc).2; omega
      omega
  have ho : overN τ c w ≤ 10080 * un τ 13 13 := by
    have a := sumN_le (f := fun d => un τ 8 (720 * c + d) - un τ 5 c) (a := 7 * w) (b := 1440 * un τ 13 13) (n := ovE w) (fun i hi => by have := mins_s hw hc (d := 7 * w + i) (by omega); show un τ 8 (720 * c + (7 * w + i)) - _ ≤ _; omega)
    have b := sumN_le (f := fun d => un τ 8 (720 * c + d)) (a := 7 * w) (b := 1440 * un τ 13 13) (n := ovE w) (fun i hi => mins_s hw hc (d := 7 * w + i) (by omega))
    have e : ovE w * (1440 * un τ 13 13) ≤ 7 * (1440 * un τ 13 13) := Nat.mul_le_mul_right _ hE.2
    unfold overN ovD ovA
    omega
  have hpr : hourN τ c (lastD w) * overN τ c w ≤ 4999 * (10080 * un τ 13 13) := Nat.mul_le_mul hh ho
  unfold overP
  by_cases z : un τ 13 13 = 0
  · rw [z] at hpr ⊢
    have e : hourN τ c (lastD w) * overN τ c w = 0 := by omega
    rw [e, rq_0 (by decide)]
    omega
  · exact rq_le (by decide) (by omega)
theorem wk_cnt : ∀ m, m < 24 → sumN (fun w => if decide (lastD w / 30 = m) = true then 1 else 0) 0 103 ≤ 5 := by decide +kernel
theorem wk_if (f : Nat → Nat) (m n : Nat) : sumN (fun w => if lastD w / 30 = m then f w else 0) 0 n = sumN (fun w => if decide (lastD w / 30 = m) = true then f w else 0) 0 n := by
  congr 1
  funext w
  by_cases z : lastD w / 30 = m
  · rw [if_pos z, if_pos (decide_eq_true z)]
  · rw [if_neg z, if_neg (by simpa using z)]
theorem bd_W (hw : WF τ) (hp : PYS τ) (hc : c < un τ 9 9) (hm : m < 24) : baseW τ c m 103 ≤ 2099585 * un τ 13 13 := by
  unfold baseW
  rw [wk_if]
  have h := sumN_if (c := fun w => decide (lastD w / 30 = m)) (f := overP τ c) (B := 419917 * un τ 13 13) (a := 0) (n := 103) (fun i hi _ => bd_oP hw hp hc (by omega))
  have k := wk_cnt m hm
  have e : 419917 * un τ 13 13 * sumN (fun w => if decide (lastD w / 30 = m) = true then 1 else 0) 0 103 ≤ 419917 * un τ 13 13 * 5 := Nat.mul_le_mul_left _ k
  omega
theorem leave_le (hw : WF τ) (hp : PYS τ) (hc : c < un τ 9 9) : sumN (leaveP τ lt c m) 0 (un τ 17 17) ≤ 49990 * un τ 17 17 := by
  have h := sumN_le (f := leaveP τ lt c m) (a := 0) (b := 49990) (n := un τ 17 17) (fun i hi => by
    unfold leaveP
    split
    · have hl := (hw.ld (0 + i) (by omega)).1.2
      have hpay := payD_s hw hp hc (d := un τ 15 (0 + i)) (by omega)
      have hn := (hw.cn c hc).2
      have hpr : un τ 5 c * payD τ c (un τ 15 (0 + i)) ≤ 600 * 4999 := Nat.mul_le_mul hn hpay
      exact rq_le (by decide) (by omega)
    · exact Nat.zero_le _)
  omega
/-- one contract's base -/
def bB (τ : Mu) : Nat := 5006 + 5700010 * (un τ 13 13 + un τ 17 17)
theorem baseN_s (hw : WF τ) (hp : PYS τ) (hc : c < un τ 9 9) (hm : m < 24) : baseN τ lt c m ≤ bB τ := by
  have h1 := bd_D hw hp hc hm
  have h2 := bd_W hw hp hc hm
  have h3 := leave_le (lt := lt) (m := m) hw hp hc
  unfold baseN bB
  omega
end Base
/-- the first three contracts are the people's; later ones of theirs go by hours -/
def OWN (τ : Mu) : Prop := 3 ≤ un τ 9 9 ∧ (∀ c, c < 3 → un τ 0 c = c) ∧ ∀ c, 3 ≤ c → c < un τ 9 9 → un τ 0 c ≤ 2 → un τ 4 c = 1
theorem own_cnt {τ : Mu} {p : Nat} (h : OWN τ) (hp : p < 3) : ∀ n, sumN (fun c => if decide (un τ 0 c = p) = true then 1 else 0) 0 (3 + n) ≤ 1 + n
  | 0 => by
    have e : ∀ c, c < 3 → (if decide (un τ 0 c = p) = true then 1 else 0) = if c = p then 1 else 0 := fun c hc => by
      rw [h.2.1 c hc]
      by_cases z : c = p
      · rw [if_pos z, if_pos (decide_eq_true z)]
      · rw [if_neg z, if_neg (by simpa using z)]
    show 0 + (if decide (un τ 0 (0 + 0) = p) = true then 1 else 0) + (if decide (un τ 0 (0 + 1) = p) = true then 1 else 0) + (if decide (un τ 0 (0 + 2) = p) = true then 1 else 0) ≤ 1
    rw [show 0 + 0 = 0 from rfl, show 0 + 1 = 1 from rfl, show 0 + 2 = 2 from rfl, e 0 (by decide), e 1 (by decide), e 2 (by decide)]
    rcases (show p = 0 ∨ p = 1 ∨ p = 2 by omega) with rfl | rfl | rfl <;> decide
  | n + 1 => by
    have ih := own_cnt h hp n
    show sumN _ 0 (3 + n) + (if decide (un τ 0 (0 + (3 + n)) = p) = true then 1 else 0) ≤ _
    split <;> omega
theorem if_dec (f : Nat → Nat) {g : Nat → Prop} [DecidablePred g] (n : Nat) : sumN (fun c => if g c then f c else 0) 0 n = sumN (fun c => if decide (g c) = true then f c else 0) 0 n := by
  congr 1
  funext c
  by_cases z : g c
  · rw [if_pos z, if_pos (decide_eq_true z)]
  · rw [if_neg z, if_neg (by simpa using z)]
theorem bs_le {τ : Mu} {p m : Nat} (hw : WF τ) (hy : PYS τ) (ho : OWN τ) (hp : p < 3) (hm : m < 24) : bsT τ p m ≤ (1 + (un τ 9 9 - 3)) * bB τ := by
  unfold bsT bsN
  rw [if_dec]
  have h := sumN_if (c := fun c => decide (un τ 0 c = p)) (f := fun c => baseN τ (ltN τ) c m) (B := bB τ) (a := 0) (n := un τ 9 9) (fun i hi _ => baseN_s hw hy (by omega) hm)
  have k := own_cnt ho hp (un τ 9 9 - 3)
  rw [show 3 + (un τ 9 9 - 3) = un τ 9 9 by have := ho.1; omega] at k
  have e := Nat.mul_le_mul_left (bB τ) k
  rw [Nat.mul_comm (1 + (un τ 9 9 - 3))]
  exact Nat.le_trans h e
theorem hr_le {τ : Mu} {p m : Nat} (hw : WF τ) (ho : OWN τ) (hp : p < 3) (hm : m < 24) : hrT τ p m ≤ (1 + (un τ 9 9 - 3)) * bB τ := by
  unfold hrT hrN
  rw [if_dec]
  have h := sumN_if (c := fun c => decide (un τ 0 c = p)) (f := fun c => hrC τ c m 30) (B := bB τ) (a := 0) (n := un τ 9 9) (fun i hi _ => by
    have h2 := sumN_le (f := fun d => un τ 8 (720 * (0 + i) + d)) (a := 30 * m) (b := 1440 * un τ 13 13) (n := 30) (fun j hj => mins_s hw (by omega) (by omega))
    show sumN _ (30 * m) 30 ≤ bB τ
    unfold bB
    omega)
  have k := own_cnt ho hp (un τ 9 9 - 3)
  rw [show 3 + (un τ 9 9 - 3) = un τ 9 9 by have := ho.1; omega] at k
  have e := Nat.mul_le_mul_left (bB τ) k
  rw [Nat.mul_comm (1 + (un τ 9 9 - 3))]
  exact Nat.le_trans (Nat.div_le_self _ _) (Nat.le_trans h e)
/-- a month that no shift and no leave touches -/
def tch (τ : Mu) (m : Nat) : Bool := anyN (fun i => decide (un τ 11 i / 1440 / 30 = m) || decide (un τ 11 i / 1440 / 30 + 1 = m)) (un τ 13 13) || anyN (fun k => decide (un τ 15 k / 30 = m)) (un τ 17 17)
/-- minutes come of shifts -/
def SHF (τ : Mu) : Prop := ∀ c d, c < un τ 9 9 → d < 720 → un τ 8 (720 * c + d) ≠ 0 → ∃ i, i < un τ 13 13 ∧ (un τ 11 i / 1440 = d ∨ un τ 11 i / 1440 + 1 = d)
section Untouched
variable {τ : Mu} {lt : Nat → Nat} {c m : Nat}
theorem tch_no (h : tch τ m = false) : (∀ i, i < un τ 13 13 → un τ 11 i / 1440 / 30 ≠ m ∧ un τ 11 i / 1440 / 30 + 1 ≠ m) ∧ ∀ k, k < un τ 17 17 → un τ 15 k / 30 ≠ m := by
  unfold tch at h
  rw [Bool.or_eq_false_iff] at h
  refine ⟨fun i hi => ?_, fun k hk e => ?_⟩
  · have z : ¬ anyN (fun i => decide (un τ 11 i / 1440 / 30 = m) || decide (un τ 11 i / 1440 / 30 + 1 = m)) (un τ 13 13) = true := by rw [h.1]; decide
    rw [anyN_iff] at z
    refine ⟨fun e => z ⟨i, hi, ?_⟩, fun e => z ⟨i, hi, ?_⟩⟩
    · rw [decide_eq_true e]; rfl
    · rw [decide_eq_true e, Bool.or_true]
  · have z : ¬ anyN (fun k => decide (un τ 15 k / 30 = m)) (un τ 17 17) = true := by rw [h.2]; decide
    rw [anyN_iff] at z
    exact z ⟨k, hk, decide_eq_true e⟩
theorem mins_0 (hs : SHF τ) (h : tch τ m = false) (hc : c < un τ 9 9) {d : Nat} (hd : d < 720) (hdm : d / 30 = m ∨ (d / 30 + 1 = m ∧ 30 * m ≤ d + 6)) : un τ 8 (720 * c + d) = 0 := by
  apply Classical.byContradiction
  intro z
  obtain ⟨i, hi, e⟩ := hs c d hc hd z
  obtain ⟨t1, t2⟩ := (tch_no h).1 i hi
  rcases e with e | e
  · rw [e] at t1 t2
    omega
  · have e2 : un τ 11 i / 1440 = d - 1 := by omega
    have hd1 : 1 ≤ d := by omega
    rw [e2] at t1 t2
    omega
theorem base_u (hw : WF τ) (hp : PYS τ) (hs : SHF τ) (h : tch τ m = false) (hc : c < un τ 9 9) (hm : m < 24) : baseN τ lt c m ≤ if un τ 4 c = 1 then 0 else 4999 := by
  have hD : baseD τ c m ≤ if un τ 4 c = 1 then 0 else 4999 := by
    unfold baseD
    by_cases h4 : un τ 4 c = 1
    · rw [if_pos h4, if_pos h4, sz_N (f := dayN τ c) (fun i hi => by
        unfold dayN
        rw [if_pos h4, mins_0 hs h hc (d := 30 * m + i) (by omega) (.inl (by omega)), Nat.zero_mul]), rq_0 (by decide)]
      exact Nat.le_refl _
    · rw [if_neg h4, if_neg h4]
      have h := sumN_le (f := dayN τ c) (a := 30 * m) (b := 4999) (n := 30) (fun i hi => by
        unfold dayN
        rw [if_neg h4]
        split
        · exact payD_s hw hp hc (by omega)
        · exact Nat.zero_le _)
      exact rq_le (by decide) (by omega)
  have hW : baseW τ c m 103 = 0 := sz_N fun w hw1 => by
    show (if lastD (0 + w) / 30 = m then overP τ c (0 + w) else 0) = 0
    rw [Nat.zero_add]
    split
    · rename_i q
      have hE : 7 * w + ovE w ≤ 720 ∧ ovE w ≤ 7 := by unfold ovE; omega
      have z : ∀ i, i < ovE w → un τ 8 (720 * c + (7 * w + i)) = 0 := fun i hi => mins_0 hs h hc (by omega) (by
        have hl : 7 * w + i ≤ lastD w ∧ lastD w ≤ 7 * w + 6 := by unfold lastD; split <;> omega
        omega)
      have o : overN τ c w = 0 := by
        unfold overN ovD ovA
        rw [sz_N (f := fun d => un τ 8 (720 * c + d) - un τ 5 c) (fun i hi => by show un τ 8 (720 * c + (7 * w + i)) - _ = 0; rw [z i hi, Nat.zero_sub]), sz_N (f := fun d => un τ 8 (720 * c + d)) (fun i hi => z i hi), Nat.zero_sub]
        rfl
      unfold overP
      rw [o, Nat.mul_zero, rq_0 (by decide)]
    · rfl
  have hL : sumN (leaveP τ lt c m) 0 (un τ 17 17) = 0 := sz_N fun k hk => by
    unfold leaveP
    rw [if_neg (fun q => (tch_no h).2 (0 + k) (by omega) q.2.2.1)]
  unfold baseN
  rw [hW, hL]
  omega
theorem bs_u (hw : WF τ) (hp : PYS τ) (ho : OWN τ) (hs : SHF τ) (h : tch τ m = false) {p : Nat} (hp3 : p < 3) (hm : m < 24) : bsT τ p m ≤ 4999 ∧ hrT τ p m = 0 := by
  constructor
  · have key : ∀ n, n ≤ un τ 9 9 → bsN τ p m n ≤ if p < n then 4999 else 0 := by
      intro n
      induction n with
      | zero => intro _; exact Nat.zero_le _
      | succ n ih =>
        intro hn
        have ih := ih (by omega)
        show bsN τ p m n + (if un τ 0 (0 + n) = p then baseN τ (ltN τ) (0 + n) m else 0) ≤ _
        rw [Nat.zero_add]
        by_cases z : un τ 0 n = p
        · rw [if_pos z]
          have b := base_u (lt := ltN τ) hw hp hs h (c := n) (by omega) hm
          by_cases n3 : n < 3
          · have e : n = p := by rw [← z, ho.2.1 n n3]
            rw [if_neg (by omega)] at ih
            rw [if_pos (by omega)]
            have : (if un τ 4 n = 1 then 0 else 4999) ≤ 4999 := by split <;> omega
            omega
          · rw [if_pos (ho.2.2 n (by omega) (by omega) (by omega))] at b
            rw [if_pos (by omega)] at ih
            rw [if_pos (by omega)]
            omega
        · rw [if_neg z]
          have : (if p < n then 4999 else 0) ≤ (if p < n + 1 then 4999 else 0) := by split <;> split <;> omega
          omega
    have k := key (un τ 9 9) (Nat.le_refl _)
    have : (if p < un τ 9 9 then 4999 else 0) ≤ 4999 := by split <;> omega
    exact Nat.le_trans k this
  · unfold hrT hrN
    rw [sz_N (fun i hi => by
      show (if un τ 0 (0 + i) = p then hrC τ (0 + i) m 30 else 0) = 0
      split
      · exact sz_N fun j hj => mins_0 hs h (by omega) (d := 30 * m + j) (by omega) (.inl (by omega))
      · rfl)]
/-- how many months are touched -/
theorem any_Z {f : Nat → Bool} : ∀ n, (if anyN f n = true then (1 : Int) else 0) ≤ sumZ (fun i => if f i = true then 1 else 0) n
  | 0 => Int.le_refl _
  | n + 1 => by
    have ih := any_Z (f := f) n
    show (if (anyN f n || f n) = true then (1 : Int) else 0) ≤ sumZ _ n + (if f n = true then 1 else 0)
    cases h1 : anyN f n <;> cases h2 : f n <;> rw [h1] at ih <;> simp at ih ⊢ <;> omega
theorem tch_cnt : sumZ (fun m => if tch τ m = true then (1 : Int) else 0) 24 ≤ 2 * un τ 13 13 + un τ 17 17 := by
  have h1 : ∀ m, m < 24 → (if tch τ m = true then (1 : Int) else 0) ≤ sumZ (fun i => (if un τ 11 i / 1440 / 30 = m then 1 else 0) + (if un τ 11 i / 1440 / 30 + 1 = m then 1 else 0)) (un τ 13 13) + sumZ (fun k => if un τ 15 k / 30 = m then 1 else 0) (un τ 17 17) := fun m _ => by
    have a := any_Z (f := fun i => decide (un τ 11 i / 1440 / 30 = m) || decide (un τ 11 i / 1440 / 30 + 1 = m)) (un τ 13 13)
    have b := any_Z (f := fun k => decide (un τ 15 k / 30 = m)) (un τ 17 17)
    have a2 : sumZ (fun i => if (decide (un τ 11 i / 1440 / 30 = m) || decide (un τ 11 i / 1440 / 30 + 1 = m)) = true then (1 : Int) else 0) (un τ 13 13) ≤ sumZ (fun i => (if un τ 11 i / 1440 / 30 = m then 1 else 0) + (if un τ 11 i / 1440 / 30 + 1 = m then 1 else 0)) (un τ 13 13) := sumZ_le fun i _ => by
      by_cases z1 : un τ 11 i / 1440 / 30 = m <;> by_cases z2 : un τ 11 i / 1440 / 30 + 1 = m <;> simp [z1, z2]
    have b2 : sumZ (fun k => if decide (un τ 15 k / 30 = m) = true then (1 : Int) else 0) (un τ 17 17) = sumZ (fun k => if un τ 15 k / 30 = m then 1 else 0) (un τ 17 17) := sumZ_cg fun k _ => by
      by_cases z : un τ 15 k / 30 = m <;> simp [z]
    unfold tch
    cases h1 : anyN (fun i => decide (un τ 11 i / 1440 / 30 = m) || decide (un τ 11 i / 1440 / 30 + 1 = m)) (un τ 13 13) <;> cases h2 : anyN (fun k => decide (un τ 15 k / 30 = m)) (un τ 17 17) <;> rw [h1] at a <;> rw [h2] at b <;> simp only [Bool.or_self, Bool.or_true, Bool.true_or, Bool.false_or, if_true, if_false, Bool.false_eq_true] at a b ⊢ <;> omega
  refine Int.le_trans (sumZ_le h1) ?_
  rw [sumZ_add, sumZ_swap (fun m i => (if un τ 11 i / 1440 / 30 = m then (1 : Int) else 0) + (if un τ 11 i / 1440 / 30 + 1 = m then 1 else 0)) (un τ 13 13) 24, sumZ_swap (fun m k => if un τ 15 k / 30 = m then (1 : Int) else 0) (un τ 17 17) 24]
  have c1 := sumZ_bd (f := fun i => sumZ (fun m => (if un τ 11 i / 1440 / 30 = m then (1 : Int) else 0) + (if un τ 11 i / 1440 / 30 + 1 = m then 1 else 0)) 24) (B := 2) (n := un τ 13 13) (fun i _ => by
    show sumZ (fun m => (if un τ 11 i / 1440 / 30 = m then (1 : Int) else 0) + (if un τ 11 i / 1440 / 30 + 1 = m then 1 else 0)) 24 ≤ 2
    rw [sumZ_add, sumZ_one, sumZ_one]
    split <;> split <;> omega)
  have c2 := sumZ_bd (f := fun k => sumZ (fun m => if un τ 15 k / 30 = m then (1 : Int) else 0) 24) (B := 1) (n := un τ 17 17) (fun k _ => by
    show sumZ (fun m => if un τ 15 k / 30 = m then (1 : Int) else 0) 24 ≤ 1
    rw [sumZ_one]
    split <;> omega)
  omega
end Untouched
