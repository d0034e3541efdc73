/-! WHAT GARNISHMENTS TOOK: by months and by garnishments -/
def sumZ (f : Nat → Int) : Nat → Int
  | 0 => 0
  | n + 1 => sumZ f n + f n
theorem sumZ_cg {f g : Nat → Int} : ∀ {n : Nat}, (∀ i, i < n → f i = g i) → sumZ f n = sumZ g n
  | 0, _ => rfl
  | n + 1, h => by show sumZ f n + f n = sumZ g n + g n; rw [sumZ_cg (n := n) (fun i hi => h i (by omega)), h n (by omega)]
theorem sumZ_0 {f : Nat → Int} : ∀ {n : Nat}, (∀ i, i < n → f i = 0) → sumZ f n = 0
  | 0, _ => rfl
  | n + 1, h => by show sumZ f n + f n = 0; rw [sumZ_0 (n := n) (fun i hi => h i (by omega)), h n (by omega)]; rfl
theorem sumZ_add (f g : Nat → Int) : ∀ n, sumZ (fun i => f i + g i) n = sumZ f n + sumZ g n
  | 0 => rfl
  | n + 1 => by
    show sumZ (fun i => f i + g i) n + (f n + g n) = sumZ f n + f n + (sumZ g n + g n)
    rw [sumZ_add f g n]; omega
theorem sumZ_swap (f : Nat → Nat → Int) (n : Nat) : ∀ m, sumZ (fun a => sumZ (fun b => f a b) n) m = sumZ (fun b => sumZ (fun a => f a b) m) n
  | 0 => (sumZ_0 (f := fun b => sumZ (fun a => f a b) 0) (fun _ _ => rfl)).symm
  | m + 1 => by
    show sumZ (fun a => sumZ (fun b => f a b) n) m + sumZ (fun b => f m b) n = _
    rw [sumZ_swap f n m, ← sumZ_add]
    rfl
theorem sumZ_le {f g : Nat → Int} : ∀ {n : Nat}, (∀ i, i < n → f i ≤ g i) → sumZ f n ≤ sumZ g n
  | 0, _ => Int.le_refl _
  | n + 1, h => by
    show sumZ f n + f n ≤ sumZ g n + g n
    have := sumZ_le (n := n) (fun i hi => h i (by omega))
    have := h n (by omega)
    omega
theorem sumZ_nn {f : Nat → Int} : ∀ {n : Nat}, (∀ i, i < n → 0 ≤ f i) → 0 ≤ sumZ f n
  | 0, _ => Int.le_refl _
  | n + 1, h => by
    show 0 ≤ sumZ f n + f n
    have := sumZ_nn (n := n) (fun i hi => h i (by omega))
    have := h n (by omega)
    omega
theorem sumZ_bd {f : Nat → Int} {B : Int} : ∀ {n : Nat}, (∀ i, i < n → f i ≤ B) → sumZ f n ≤ n * B
  | 0, _ => by show (0 : Int) ≤ ((0 : Nat) : Int) * B; simp
  | n + 1, h => by
    show sumZ f n + f n ≤ ((n + 1 : Nat) : Int) * B
    have h1 := sumZ_bd (n := n) (fun i hi => h i (by omega))
    have h2 := h n (by omega)
    have e : ((n + 1 : Nat) : Int) * B = n * B + B := by push_cast; rw [Int.add_mul, Int.one_mul]
    omega
/-- one that is at one place alone -/
theorem sumZ_one {k : Nat} {v : Int} : ∀ {n : Nat}, sumZ (fun r => if k = r then v else 0) n = if k < n then v else 0
  | 0 => by rw [if_neg (Nat.not_lt_zero _)]; rfl
  | n + 1 => by
    show sumZ (fun r => if k = r then v else 0) n + (if k = n then v else 0) = _
    rw [sumZ_one (n := n)]
    by_cases h1 : k < n
    · rw [if_pos h1, if_neg (by omega), if_pos (by omega)]; omega
    · rw [if_neg h1]
      by_cases h2 : k = n
      · rw [if_pos h2, if_pos (by omega)]; omega
      · rw [if_neg h2, if_neg (by omega)]; rfl
theorem sumL_I {f : Nat → Int64} {B : Nat} : ∀ {n : Nat}, (∀ i, i < n → bdL (f i) B) → n * B < 2 ^ 62 → (sumL f n).toInt = sumZ (fun i => (f i).toInt) n
  | 0, _, _ => rfl
  | n + 1, h, hb => by
    have e : (n + 1) * B = n * B + B := Nat.succ_mul n B
    rw [e] at hb
    show (sumL f n + f n).toInt = sumZ (fun i => (f i).toInt) n + (f n).toInt
    rw [bd_addI (bd_sum (fun i hi => h i (by omega)) (by omega)) (h n (by omega)) hb, sumL_I (n := n) (fun i hi => h i (by omega)) (by omega)]
section Taken
variable {τ : Mu} {p m : Nat}
/-- what garnishment g takes of person p in month m -/
def tm (τ : Mu) (p m g : Nat) : Int := if un τ 38 g = p ∧ un τ 39 g ≤ m then (tkG τ (ntL τ p m) (hadL τ p m g) (lfK τ p m (ntL τ p m) (hadL τ p m) (un τ 40 g) (lfR τ p m (ntL τ p m) (hadL τ p m) (un τ 40 g)) g) g).toInt else 0
theorem lfK_s (hw : WF τ) (hp : p < 6) (hm : m < 24) (r : Nat) : ∀ n, n ≤ un τ 44 44 → (lfK τ p m (ntL τ p m) (hadL τ p m) r (lfR τ p m (ntL τ p m) (hadL τ p m) r) n).toInt = (lfR τ p m (ntL τ p m) (hadL τ p m) r).toInt - sumZ (fun g => if un τ 40 g = r then tm τ p m g else 0) n
  | 0, _ => by show _ = _ - (0 : Int); rw [Int.sub_zero]; rfl
  | n + 1, hn => by
    have ih := lfK_s hw hp hm r n (by omega)
    have hnt := ntL_bd hw hp hm
    have hi := lfK_I hw hnt (lfR_I hw hnt (had := hadL τ p m) (m := m) (p := p) r) (p := p) (m := m) (had := hadL τ p m) (r := r) n (by omega)
    show (if un τ 40 n = r ∧ un τ 38 n = p ∧ un τ 39 n ≤ m then _ else _ : Int64).toInt = _ - (sumZ _ n + if un τ 40 n = r then tm τ p m n else 0)
    by_cases c : un τ 40 n = r ∧ un τ 38 n = p ∧ un τ 39 n ≤ m
    · rw [if_pos c, if_pos c.1]
      have e := (hi.take hnt (hw.gk n (by omega)).2 (h := hadL τ p m n)).2.2.2
      rw [e, ih]
      unfold tm
      rw [if_pos c.2, c.1]
      omega
    · rw [if_neg c, ih]
      by_cases c1 : un τ 40 n = r
      · rw [if_pos c1]
        unfold tm
        rw [if_neg (fun h => c ⟨c1, h⟩)]
        omega
      · rw [if_neg c1]; omega
theorem lfR_s (hw : WF τ) (hp : p < 6) (hm : m < 24) : ∀ r, (lfR τ p m (ntL τ p m) (hadL τ p m) r).toInt = (ntL τ p m).toInt - sumZ (fun q => sumZ (fun g => if un τ 40 g = q then tm τ p m g else 0) (un τ 44 44)) r
  | 0 => by show _ = _ - (0 : Int); rw [Int.sub_zero]; rfl
  | r + 1 => by
    show (lfK τ p m (ntL τ p m) (hadL τ p m) r (lfR τ p m (ntL τ p m) (hadL τ p m) r) (un τ 44 44)).toInt = _ - (sumZ _ r + sumZ _ (un τ 44 44))
    rw [lfK_s hw hp hm r _ (Nat.le_refl _), lfR_s hw hp hm r]
    omega
theorem tk5_s (hw : WF τ) (hp : p < 6) (hm : m < 24) : (slL τ p m 5).toInt = sumZ (tm τ p m) (un τ 44 44) := by
  have e : (lvL τ p m).toInt = _ := lfR_s hw hp hm 10
  rw [tk5_I hw hp hm, e, sumZ_swap (fun q g => if un τ 40 g = q then tm τ p m g else 0) (un τ 44 44) 10]
  rw [sumZ_cg (g := tm τ p m) (fun g hg => by
    show sumZ (fun q => if un τ 40 g = q then tm τ p m g else 0) 10 = _
    rw [sumZ_one, if_pos (by have := (hw.gr g hg).2; omega)])]
  omega
theorem tm_in (hw : WF τ) (hp : p < 6) (hm : m < 24) {g : Nat} (hg : g < un τ 44 44) : 0 ≤ tm τ p m g ∧ tm τ p m g ≤ 1000000000000000 := by
  have hnt := ntL_bd hw hp hm
  unfold tm
  split
  · have hi := lfK_I hw hnt (lfR_I hw hnt (had := hadL τ p m) (m := m) (p := p) (un τ 40 g)) (p := p) (m := m) (had := hadL τ p m) (r := un τ 40 g) g (by omega)
    have e := hi.take hnt (hw.gk g (by omega)).2 (h := hadL τ p m g)
    exact ⟨e.2.1, e.2.2.1⟩
  · exact ⟨Int.le_refl _, by decide⟩
theorem hd_z {g : Nat} : ∀ m, m ≤ un τ 39 g → hadL τ p m g = lN 0
  | 0, _ => rfl
  | m + 1, h => if_neg (show ¬ un τ 39 g ≤ m by omega)
theorem hd_s (hw : WF τ) {g : Nat} (hg : g < un τ 44 44) (hp : un τ 38 g = p) (hp6 : p < 6) : ∀ m, m ≤ 24 → (hadL τ p m g).toInt = sumZ (fun k => tm τ p k g) m ∧ 0 ≤ (hadL τ p m g).toInt ∧ (hadL τ p m g).toInt ≤ m * 1000000000000000
  | 0, _ => by
    have e : (hadL τ p 0 g).toInt = 0 := rfl
    rw [e]
    exact ⟨rfl, Int.le_refl _, by omega⟩
  | m + 1, hm => by
    obtain ⟨i1, i2, i3⟩ := hd_s hw hg hp hp6 m (by omega)
    have t := tm_in hw hp6 (show m < 24 by omega) hg
    show (goneF τ p m (ntL τ p m) (hadL τ p m) g).toInt = sumZ _ m + tm τ p m g ∧ 0 ≤ (goneF τ p m (ntL τ p m) (hadL τ p m) g).toInt ∧ (goneF τ p m (ntL τ p m) (hadL τ p m) g).toInt ≤ _
    unfold goneF
    by_cases c : un τ 39 g ≤ m
    · have e : tm τ p m g = (tkG τ (ntL τ p m) (hadL τ p m g) (lfK τ p m (ntL τ p m) (hadL τ p m) (un τ 40 g) (lfR τ p m (ntL τ p m) (hadL τ p m) (un τ 40 g)) g) g).toInt := if_pos ⟨hp, c⟩
      rw [if_pos c]
      have a := bd_addI (x := hadL τ p m g) (y := tkG τ (ntL τ p m) (hadL τ p m g) (lfK τ p m (ntL τ p m) (hadL τ p m) (un τ 40 g) (lfR τ p m (ntL τ p m) (hadL τ p m) (un τ 40 g)) g) g) (A := 24000000000000000) (B := 1000000000000000) ⟨by omega, by omega⟩ ⟨by omega, by omega⟩ (by decide)
      rw [a, ← e, ← i1]
      exact ⟨rfl, by omega, by omega⟩
    · have e : tm τ p m g = 0 := if_neg (fun h => c h.2)
      have z : (hadL τ p m g).toInt = 0 := by rw [hd_z m (by omega)]; rfl
      rw [if_neg c, e, ← i1, z]
      exact ⟨rfl, by decide, by rw [z0I]; omega⟩
end Taken
theorem tkP_I {τ : Mu} (hw : WF τ) {p : Nat} {t : Int64} (hp : p < 6) (ht : 0 ≤ t.toInt ∧ t.toInt ≤ 1000000000000000000) : ∀ k, k ≤ 24 → (tkP τ p t k).toInt = t.toInt + sumZ (fun m => (slL τ p m 5).toInt) k ∧ 0 ≤ sumZ (fun m => (slL τ p m 5).toInt) k ∧ sumZ (fun m => (slL τ p m 5).toInt) k ≤ k * 2000000000000000
  | 0, _ => by
    show t.toInt = t.toInt + 0 ∧ (0 : Int) ≤ 0 ∧ (0 : Int) ≤ _
    omega
  | k + 1, hk => by
    obtain ⟨i1, i2, i3⟩ := tkP_I hw hp ht k (by omega)
    have h5 := tk5_I hw hp (show k < 24 by omega)
    have l := lvL_I hw hp (show k < 24 by omega)
    have n := ntL_bd hw hp (show k < 24 by omega)
    have n1 := n.1
    have n2 := n.2
    have l1 := l.2.2.1
    have l2 := l.1
    show (tkP τ p t k + slL τ p k 5).toInt = t.toInt + (sumZ _ k + (slL τ p k 5).toInt) ∧ 0 ≤ sumZ _ k + (slL τ p k 5).toInt ∧ sumZ _ k + (slL τ p k 5).toInt ≤ _
    rw [bd_addI (A := 1050000000000000000) (B := 2000000000000000) ⟨by omega, by omega⟩ ⟨by omega, by omega⟩ (by decide), i1]
    omega
theorem byS_I {τ : Mu} (hw : WF τ) : ∀ n, n ≤ un τ 44 44 → (byS τ n).toInt = sumZ (fun g => (hadL τ (un τ 38 g) 24 g).toInt) n ∧ 0 ≤ (byS τ n).toInt ∧ (byS τ n).toInt ≤ n * 24000000000000000
  | 0, _ => by
    have e : (byS τ 0).toInt = 0 := rfl
    rw [e]
    exact ⟨rfl, Int.le_refl _, by omega⟩
  | n + 1, hn => by
    have h44 := hw.ng.2
    obtain ⟨i1, i2, i3⟩ := byS_I hw n (by omega)
    have h := hd_s hw (show n < un τ 44 44 by omega) rfl (by have := (hw.gw n (by omega)).2; omega) 24 (Nat.le_refl _)
    show (byS τ n + hadL τ (un τ 38 n) 24 n).toInt = sumZ _ n + (hadL τ (un τ 38 n) 24 n).toInt ∧ 0 ≤ (byS τ n + hadL τ (un τ 38 n) 24 n).toInt ∧ (byS τ n + hadL τ (un τ 38 n) 24 n).toInt ≤ _
    rw [bd_addI (A := 150000000000000000) (B := 24000000000000000) ⟨by omega, by omega⟩ ⟨by omega, by omega⟩ (by decide), i1]
    omega
/-- what garnishments took, by people and by garnishments -/
theorem by_tk {τ : Mu} (hw : WF τ) (hg : ∀ g, g < un τ 44 44 → un τ 38 g < 3) : byS τ (un τ 44 44) = tkS τ 3 := by
  rw [← Int64.toInt_inj, (byS_I hw _ (Nat.le_refl _)).1]
  have t0 := tkP_I hw (p := 0) (t := lN 0) (by decide) ⟨by rw [z0I]; omega, by rw [z0I]; omega⟩ 24 (Nat.le_refl _)
  have t1 := tkP_I hw (p := 1) (t := tkP τ 0 (lN 0) 24) (by decide) ⟨by rw [t0.1, z0I]; omega, by rw [t0.1, z0I]; omega⟩ 24 (Nat.le_refl _)
  have t2 := tkP_I hw (p := 2) (t := tkP τ 1 (tkP τ 0 (lN 0) 24) 24) (by decide) ⟨by rw [t1.1, t0.1, z0I]; omega, by rw [t1.1, t0.1, z0I]; omega⟩ 24 (Nat.le_refl _)
  show _ = (tkP τ 2 (tkP τ 1 (tkP τ 0 (lN 0) 24) 24) 24).toInt
  rw [t2.1, t1.1, t0.1, z0I]
  have e : ∀ p, p < 3 → sumZ (fun m => (slL τ p m 5).toInt) 24 = sumZ (fun g => sumZ (fun m => tm τ p m g) 24) (un τ 44 44) := fun p hp => by
    rw [sumZ_cg (g := fun m => sumZ (fun g => tm τ p m g) (un τ 44 44)) (fun m hm => tk5_s hw (by omega) hm)]
    exact sumZ_swap (fun m g => tm τ p m g) (un τ 44 44) 24
  rw [e 0 (by decide), e 1 (by decide), e 2 (by decide)]
  rw [show (0 : Int) + sumZ (fun g => sumZ (fun m => tm τ 0 m g) 24) (un τ 44 44) = sumZ (fun g => sumZ (fun m => tm τ 0 m g) 24) (un τ 44 44) from Int.zero_add _, ← sumZ_add, ← sumZ_add]
  refine sumZ_cg fun g hg2 => ?_
  have g3 := hg g hg2
  rw [(hd_s hw hg2 rfl (by omega) 24 (Nat.le_refl _)).1]
  have z : ∀ p, p ≠ un τ 38 g → sumZ (fun m => tm τ p m g) 24 = 0 := fun p hp => sumZ_0 fun m _ => if_neg (fun h => hp h.1.symm)
  rcases (show un τ 38 g = 0 ∨ un τ 38 g = 1 ∨ un τ 38 g = 2 by omega) with h | h | h
  · rw [z 1 (by omega), z 2 (by omega), h]; omega
  · rw [z 0 (by omega), z 2 (by omega), h]; omega
  · rw [z 0 (by omega), z 1 (by omega), h]; omega
/-- all that asks asks -/
theorem ask_ok {τ : Mu} (hw : WF τ) (had : ∀ p, p < 6 → AD τ p) (hg : ∀ g, g < un τ 44 44 → un τ 38 g < 3) : AskOK τ :=
  ⟨fun p m w _ _ h => sum_in τ p m h, fun p m hp hm => ask_m hw (by omega) (had p (by omega)) hm, fun p m hp hm => yearL_0 hw (by omega), fun p m hp hm => yearL_m hw (by omega) ⟨by decide, by decide⟩ (by decide), by_tk hw hg⟩
