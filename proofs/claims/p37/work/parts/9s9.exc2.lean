/-! THE TWO RUNS THAT ARE TIGHT: what is owed in them isn't bad -/
def AG (σ τ : Mu) : Prop := (∀ k, k < 22 ∨ 28 ≤ k → σ.1 k = τ.1 k) ∧ σ.2 = τ.2
def FRM (σ τ : Mu) : Prop := un σ 26 26 ≤ un τ 26 26 ∧ ∀ e, e < un σ 26 26 → un σ 24 e = un τ 24 e ∧ un σ 25 e = un τ 25 e ∧ ∀ j, j < 10 → σ.1 22 (10 * e + j) = τ.1 22 (10 * e + j) ∧ σ.1 23 (10 * e + j) = τ.1 23 (10 * e + j)
section Exc
variable {σ τ : Mu} {p m : Nat}
theorem AG.u (h : AG σ τ) {k i : Nat} (hk : k < 22 ∨ 28 ≤ k) : un σ k i = un τ k i := by unfold un; rw [h.1 k hk]
theorem AG.pz (h : AG σ τ) (z : PZ τ) : PZ σ := by
  obtain ⟨z1, z2, z3, z4, z5, z6, z7, z8, z9⟩ := z
  refine ⟨fun i hi => ?_, fun i hi => ?_, fun i hi => ?_, fun i hi => ?_, ?_, fun i hi => ?_, ?_, ?_, ?_⟩
  · rw [h.1 30 (by decide)]; exact z1 i hi
  · rw [h.1 31 (by decide)]; exact z2 i hi
  · rw [h.u (by decide)]; exact z3 i hi
  · rw [h.1 37 (by decide)]; exact z4 i hi
  · rw [h.u (by decide)]; exact z5
  · rw [h.2]; exact z6 i hi
  · rw [h.u (by decide)]; exact z7
  · rw [h.u (by decide)]; exact z8
  · rw [h.u (by decide)]; exact z9
theorem AG.own (h : AG σ τ) (o : OWN τ) : OWN σ := by
  obtain ⟨o1, o2, o3⟩ := o
  refine ⟨by rw [h.u (by decide)]; exact o1, fun c hc => by rw [h.u (by decide)]; exact o2 c hc, fun c h3 h9 h0 => ?_⟩
  rw [h.u (by decide)] at h9 h0 ⊢
  exact o3 c h3 h9 h0
theorem AG.bs (h : AG σ τ) (hw : WF τ) (hs : WF σ) (z : PZ τ) (o : OWN τ) (k : PK τ) (hp : p < 3) (hm : m < 24) : bsT σ p m = bsT τ p m := by
  obtain ⟨_, _, P, _, _, k5⟩ := k p hp
  rw [pz_bs hs (h.pz z) (h.own o) hp, pz_bs hw z o hp]
  obtain ⟨a1, a2⟩ := pz_base hs (h.pz z) hp hm (ltN σ)
  obtain ⟨b1, b2⟩ := pz_base hw z hp hm (ltN τ)
  by_cases h4 : un τ 4 p = 1
  · rw [a1 (by rw [h.u (by decide)]; exact h4), b1 h4]
  · rw [a2 P (fun d h1 h2 => by rw [h.u (by decide)] at h1 ⊢; exact k5 d h1 h2) (by rw [h.u (by decide)]; exact h4), b2 P k5 h4, h.u (by decide), h.u (by decide)]
theorem pz_hr (hw : WF τ) (z : PZ τ) (hm : m < 24) : hrT τ p m = 0 := by
  unfold hrT hrN
  rw [sz_N (fun i hi => by
    show (if un τ 0 (0 + i) = p then hrC τ (0 + i) m 30 else 0) = 0
    split
    · exact sz_N fun j hj => by
        have := mins_s hw (c := 0 + i) (by omega) (d := 30 * m + j) (by omega)
        rw [z.2.2.2.2.2.2.1] at this
        show un τ 8 (720 * (0 + i) + (30 * m + j)) = 0
        omega
    · rfl)]
theorem kept_nn {v : Int64} (h : 0 ≤ v.toInt) : 0 ≤ (keptL v).toInt := by
  unfold keptL
  split
  · rw [pk_lT (by decide)]; omega
  · split
    · rename_i q
      rw [Int64.lt_iff_toInt_lt, show (-100000000 : Int64).toInt = -100000000 by decide] at q
      omega
    · exact h
/-- words alike, nothing else being there: alike -/
theorem form_cg {x : Nat} {b h : Int64} (hl : un σ 24 x = un τ 24 x) (hx : un τ 24 x ≤ 10) (hj : ∀ j, j < 10 → σ.1 22 (10 * x + j) = τ.1 22 (10 * x + j) ∧ σ.1 23 (10 * x + j) = τ.1 23 (10 * x + j)) : formL σ (fun _ => lN 0) b h x = formL τ (fun _ => lN 0) b h x := by
  have sg : ∀ j, j < 10 → singL σ (fun _ => lN 0) b h (10 * x + j) = singL τ (fun _ => lN 0) b h (10 * x + j) := fun j hj1 => by
    obtain ⟨a1, a2⟩ := hj j hj1
    unfold singL un
    rw [a1, a2]
    simp
  have fd : ∀ k, k ≤ 10 → fmD σ x k = fmD τ x k := fun k hk => fmD_sh fun j hj1 => (hj j (by omega)).1
  have fp : ∀ k, k ≤ 10 → fmP σ (fun _ => lN 0) b h x k = fmP τ (fun _ => lN 0) b h x k := by
    intro k
    induction k with
    | zero => intro _; rfl
    | succ k ih =>
      intro hk
      have i1 := ih (by omega)
      have u2 : un σ 22 (10 * x + k) = un τ 22 (10 * x + k) := by unfold un; rw [(hj k (by omega)).1]
      show (if un σ 22 (10 * x + k) < 4 then _ else _ : Nat → Int64) = (if un τ 22 (10 * x + k) < 4 then _ else _)
      rw [u2, i1, fd k (by omega), sg k (by omega)]
  unfold formL
  rw [hl, fp _ hx]
theorem sumN_g0 {f : Nat → Nat} : ∀ {n : Nat}, (∀ i, i < n → 1 ≤ f i) → n ≤ sumN f 0 n
  | 0, _ => Nat.zero_le _
  | n + 1, h => by
    have := sumN_g0 (n := n) (fun i hi => h i (by omega))
    have h1 := h n (by omega)
    show n + 1 ≤ sumN f 0 n + f (0 + n)
    rw [Nat.zero_add]
    omega
theorem sumN_g1 {f : Nat → Nat} : ∀ {n x : Nat}, (∀ i, i < n → 1 ≤ f i) → x < n → f x + n ≤ sumN f 0 n + 1
  | 0, _, _, h => absurd h (Nat.not_lt_zero _)
  | n + 1, x, h, hx => by
    have h1 := h n (by omega)
    show f x + (n + 1) ≤ sumN f 0 n + f (0 + n) + 1
    rw [Nat.zero_add]
    by_cases z : x = n
    · have := sumN_g0 (n := n) (fun i hi => h i (by omega))
      rw [z]; omega
    · have := sumN_g1 (n := n) (x := x) (fun i hi => h i (by omega)) (by omega)
      omega
theorem sumN_g2 {f : Nat → Nat} : ∀ {n x y : Nat}, (∀ i, i < n → 1 ≤ f i) → x < n → y < n → x ≠ y → f x + f y + n ≤ sumN f 0 n + 2
  | 0, _, _, _, h, _, _ => absurd h (Nat.not_lt_zero _)
  | n + 1, x, y, h, hx, hy, hxy => by
    have h1 := h n (by omega)
    show f x + f y + (n + 1) ≤ sumN f 0 n + f (0 + n) + 2
    rw [Nat.zero_add]
    by_cases z : x = n
    · have := sumN_g1 (n := n) (x := y) (fun i hi => h i (by omega)) (by omega)
      rw [z]; omega
    · by_cases z2 : y = n
      · have := sumN_g1 (n := n) (x := x) (fun i hi => h i (by omega)) (by omega)
        rw [z2]; omega
      · have := sumN_g2 (n := n) (x := x) (y := y) (fun i hi => h i (by omega)) (by omega) (by omega) hxy
        omega
theorem sumZ_lin {f g : Nat → Int} {c : Int} : ∀ {n : Nat}, sumZ (fun i => f i + c * g i) n = sumZ f n + c * sumZ g n
  | 0 => by show (0 : Int) = 0 + c * 0; omega
  | n + 1 => by
    show sumZ (fun i => f i + c * g i) n + (f n + c * g n) = sumZ f n + f n + c * (sumZ g n + g n)
    rw [sumZ_lin (n := n), Int.mul_add]; omega
/-- what is first in the order needs nothing -/
theorem first_no (hw : WF τ) (hE : 0 < un τ 26 26) {j : Nat} (hj : j < un τ 24 (un τ 27 0)) (h2 : un τ 22 (10 * un τ 27 0 + j) = 2) : un τ 26 26 ≤ un τ 23 (10 * un τ 27 0 + j) := by
  have nb : ∀ e k, k ≤ 10 → ∀ j, j < k → un τ 22 (10 * e + j) = 2 → (needK τ e k).testBit (un τ 23 (10 * e + j)) = true := by
    intro e k
    induction k with
    | zero => intro _ j hj; omega
    | succ k ih =>
      intro hk j hj h2
      show (needK τ e k ||| (if un τ 22 (10 * e + k) = 2 then 2 ^ un τ 23 (10 * e + k) else 0)).testBit _ = true
      rw [Nat.testBit_or]
      by_cases z : j = k
      · rw [← z, if_pos h2, Nat.testBit_two_pow_self, Bool.or_true]
      · rw [ih (by omega) j (by omega) h2, Bool.true_or]
  have he := (hw.od 0 hE).2
  have hl := (hw.el (un τ 27 0) (by have := hw.ne.2; omega)).2
  have hs := (arr_s hw.ac hw.ne.2 hE).1
  have hf := (fst_lt hs).2
  rw [← hw.or 0 hE] at hf
  have hn := (fit_iff.mp hf).2
  apply Classical.byContradiction
  intro z
  have h0 := hn (un τ 23 (10 * un τ 27 0 + j)) (by omega) (nb _ _ hl j hj h2)
  rw [show arrD τ 0 = 0 from rfl, Nat.zero_testBit] at h0
  cases h0
theorem exc (hw : WF τ) (hs : WF σ) (z : PZ τ) (ho : OWN τ) (hk : PK τ) (hm : MO τ) (hms : MO σ) (ag : AG σ τ) (fr : FRM σ τ) {n : Nat} (hp : p < 3) (hn : n = 9 ∧ un τ 26 26 = 5 ∨ n = 11 ∧ un τ 26 26 = 4) (hW : sumN (fun e => un τ 24 e) 0 (un τ 26 26) = un τ 26 26 + 4) {paid : Int} (h0 : 0 ≤ paid) (h1 : sumZ (fun m => (pyL σ p m).toInt) (n - 1) ≤ paid) (h2 : (∀ e, e < un σ 26 26 → un σ 24 e = 1) → paid ≤ 280000) :
    sumZ (fun m => (pyL τ p m).toInt) n - paid < 8589934584 ∧ ¬ (4294967288 ≤ sumZ (fun m => (pyL τ p m).toInt) n - paid ∧ sumZ (fun m => (pyL τ p m).toInt) n - paid ≤ 4294967294) := by
  have hE : 0 < un τ 26 26 := by omega
  have hn24 : n ≤ 24 := by omega
  have hb := pz_b hw z ho hk hp
  have b39 : ∀ m, m < 24 → bsT τ p m ≤ 3999 := fun m hm => by
    rcases hb with h | ⟨P, a1, a2, a3, _⟩
    · rw [h m hm]; omega
    · obtain ⟨d, hd, e⟩ := a3 m hm
      rw [e]
      exact rq_le (by decide) (by have : P * d ≤ 3999 * 30 := Nat.mul_le_mul a2 hd; omega)
  have hr : ∀ m, m < 24 → hrT τ p m = 0 := fun m hm => pz_hr hw z hm
  have ev : ∀ m, m < n → (pyL τ p m).toInt = bsT τ p m + (gE τ p m (un τ 26 26)).toInt := fun m hm => pz_al hw z (by omega) (by omega)
  -- a small one
  have small : (∀ m, m < n → (gE τ p m (un τ 26 26)).toInt ≤ (un τ 26 26 - 1 : Int) * 100000000 + 25000000) → sumZ (fun m => (pyL τ p m).toInt) n - paid < 4294967288 := fun h => by
    have t : sumZ (fun m => (pyL τ p m).toInt) n ≤ n * (3999 + ((un τ 26 26 - 1 : Int) * 100000000 + 25000000)) := sumZ_bd fun m hm => by
      have := h m hm
      have := b39 m (by omega)
      rw [ev m hm]
      omega
    rcases hn with ⟨e1, e2⟩ | ⟨e1, e2⟩
    · rw [e1] at t ⊢
      rw [e2] at t
      omega
    · rw [e1] at t ⊢
      rw [e2] at t
      omega
  have hlen : ∀ e, e < un τ 26 26 → un τ 24 e % 2 = 1 := fun e he => len_odd hw he
  have hl1 : ∀ e, e < un τ 26 26 → 1 ≤ (fun e => un τ 24 e) e := fun e he => by have := hlen e he; show 1 ≤ un τ 24 e; omega
  have hx := (hw.od 0 hE).2
  have hx5 : un τ 24 (un τ 27 0) + un τ 26 26 ≤ un τ 26 26 + 4 + 1 := by have := sumN_g1 hl1 hx; rw [hW] at this; exact this
  have hxo := hlen _ hx
  rcases (show un τ 24 (un τ 27 0) = 1 ∨ un τ 24 (un τ 27 0) = 3 ∨ un τ 24 (un τ 27 0) = 5 by omega) with l1 | l3 | l5
  · have s := small fun m hm1 => by
      have c := ev1 (p := p) (m := m) hw hm (B := 5000) (by have := b39 m (by omega); omega) (by rw [hr m (by omega)]; omega) (by decide) (by decide) 1 (by omega) (fun i hi => by rw [show i = 0 by omega]; exact l1) (un τ 27 0)
      rw [gE_s _ hw.ne.2]
      have := sumZ_drop (f := vI τ p m) (B := 25000000) (C := 100000000) (by decide) hE (by show (cmL τ p m 1 (un τ 27 0)).toInt ≤ 25000000; have := c.2; omega) (fun i _ => vI_le i)
      exact this
    omega
  · have s := small fun m hm1 => by
      have c := step3 (p := p) (m := m) (k := 0) hw hm (B := 5000) (by have := b39 m (by omega); omega) (by rw [hr m (by omega)]; omega) (by decide) (by decide) hE l3 (fun _ => bd_0) (un τ 27 0)
      rw [gE_s _ hw.ne.2]
      exact sumZ_drop (f := vI τ p m) (B := 25000000) (C := 100000000) (by decide) hE (by show (cmL τ p m 1 (un τ 27 0)).toInt ≤ 25000000; have := c.2; omega) (fun i _ => vI_le i)
    omega
  · have others : ∀ e, e < un τ 26 26 → e ≠ un τ 27 0 → un τ 24 e = 1 := fun e he hne => by
      have := sumN_g2 hl1 hx he (fun q => hne q.symm)
      rw [hW] at this
      have h3 := hlen e he
      have h4 : un τ 24 (un τ 27 0) + un τ 24 e + un τ 26 26 ≤ un τ 26 26 + 4 + 2 := this
      omega
    rcases sum_lk (p := p) hw hm (B := 5000) (by decide) (by decide) others hE with h | ⟨htb, h⟩
    · have s := small fun m hm1 => by
        have := h m (by have := b39 m (by omega); omega) (by rw [hr m (by omega)]; omega)
        omega
      omega
    · obtain ⟨ind, cl⟩ := five_cl hw hm hx l5 (fun j hj q => first_no hw hE (by omega) q)
      have fx : ∀ m, m < n → (pyL τ p m).toInt = bsT τ p m + (un τ 26 26 : Int) * FX τ (un τ 27 0) (bsT τ p m) := fun m hm1 => by
        have b := b39 m (by omega)
        have e : (cmL τ p m 1 (un τ 27 0)).toInt = FX τ (un τ 27 0) (bsT τ p m) := by
          rw [cm_at, if_pos htb, hr m (by omega)]
          rfl
        rw [ev m hm1, h m (by omega) (by rw [hr m (by omega)]; omega), e]
      have tot : sumZ (fun m => (pyL τ p m).toInt) n = sumZ (fun m => (bsT τ p m : Int)) n + (un τ 26 26 : Int) * sumZ (fun m => FX τ (un τ 27 0) (bsT τ p m)) n := by
        rw [sumZ_cg fx, sumZ_lin]
      have sb : sumZ (fun m => (bsT τ p m : Int)) n ≤ n * 3999 := sumZ_bd fun m hm1 => by have := b39 m (by omega); omega
      have sb0 : 0 ≤ sumZ (fun m => (bsT τ p m : Int)) n := sumZ_nn fun m _ => by omega
      rw [tot]
      -- the first kind
      by_cases ci : ∀ b, b ≤ 3999 → FX τ (un τ 27 0) b ≤ 80000000
      · have t : sumZ (fun m => FX τ (un τ 27 0) (bsT τ p m)) n ≤ n * 80000000 := sumZ_bd fun m hm1 => ci _ (b39 m (by omega))
        rcases hn with ⟨e1, e2⟩ | ⟨e1, e2⟩ <;> rw [e1] at t sb sb0 ⊢ <;> rw [e2] <;> omega
      have cl2 := cl.resolve_left ci
      have fb : ∀ b, b ≤ 3999 → 0 ≤ FX τ (un τ 27 0) b ∧ FX τ (un τ 27 0) b ≤ 100000000 := fun b hb => by
        rcases cl2 with c | ⟨k, hk6, c⟩
        · rw [c b hb]; omega
        · rw [c b hb]
          have : k * (b * b) ≤ 6 * (3999 * 3999) := Nat.mul_le_mul hk6 (Nat.mul_le_mul hb hb)
          omega
      by_cases xs : un τ 27 0 < un σ 26 26
      · -- it stood at the last closing
        obtain ⟨f1, f2, f3⟩ := fr.2 _ xs
        have zs := ag.pz z
        have s5 : un σ 24 (un τ 27 0) = 5 := f1.trans l5
        have hno : ∀ j, j < 5 → un σ 22 (10 * un τ 27 0 + j) = 2 → un σ 26 26 ≤ un σ 23 (10 * un τ 27 0 + j) := fun j hj q => by
          obtain ⟨g1, g2⟩ := f3 j (by omega)
          have q2 : un τ 22 (10 * un τ 27 0 + j) = 2 := (un_cg g1).symm.trans q
          have := first_no hw hE (by omega) q2
          have e : un σ 23 (10 * un τ 27 0 + j) = un τ 23 (10 * un τ 27 0 + j) := un_cg g2
          rw [e]
          exact Nat.le_trans fr.1 this
        obtain ⟨inds, _⟩ := five_cl hs hms xs s5 hno
        have pys : ∀ m, m < n - 1 → FX τ (un τ 27 0) (bsT τ p m) ≤ (pyL σ p m).toInt := fun m hm1 => by
          have eb := ag.bs hw hs z ho hk hp (show m < 24 by omega)
          have b := b39 m (by omega)
          have hrs : hrT σ p m = 0 := pz_hr hs zs (by omega)
          have fxe : ∀ cm, formL σ cm (lN (bsT σ p m)) (lN (hrT σ p m)) (un τ 27 0) = formL τ (fun _ => lN 0) (lN (bsT τ p m)) (lN 0) (un τ 27 0) := fun cm => by
            rw [hrs, eb, inds cm _ b]
            exact form_cg f1 (by omega) f3
          have nn : ∀ k, k ≤ un σ 26 26 → ∀ j, 0 ≤ (cmL σ p m k j).toInt := by
            intro k
            induction k with
            | zero => intro _ j; show 0 ≤ (lN 0).toInt; rw [z0I]; omega
            | succ k ih =>
              intro hk1 j
              have ih := ih (by omega)
              by_cases zj : j = un σ 27 k
              · rw [zj, cm_at]
                split
                · by_cases zx : un σ 27 k = un τ 27 0
                  · rw [zx, fxe]
                    exact (fb _ b).1
                  · have hek := (hs.od k (by omega)).2
                    have le1 : un σ 24 (un σ 27 k) = 1 := (fr.2 _ hek).1.trans (others _ (Nat.lt_of_lt_of_le hek fr.1) zx)
                    rw [(form1 (hs.fm _ hek).1 le1).2]
                    refine kept_nn ?_
                    unfold singL
                    split
                    · rw [pk_lT (by omega)]; omega
                    · split
                      · rw [hrs, z0I]; omega
                      · split
                        · rename_i q
                          obtain ⟨k2, hk2, e1⟩ := hms _ 0 (by have := hs.ne.2; omega) (by omega) q
                          rw [e1, Int32.toInt_toInt64, nI_toInt (by omega)]
                          omega
                        · split
                          · exact ih _
                          · rw [z0I]; omega
                · rw [z0I]; omega
              · rw [cm_no zj]; exact ih j
          obtain ⟨k0, hk0, ek⟩ := od_all hs xs
          have v0 : vI σ p m k0 = FX τ (un τ 27 0) (bsT τ p m) := by
            unfold vI
            rw [cm_at, ek, if_pos (by rw [f2]; exact htb), fxe]
            rfl
          rw [pz_al hs zs (by omega) (by omega), gE_s _ hs.ne.2, ← v0]
          have mem : ∀ n k, k < n → n ≤ un σ 26 26 → vI σ p m k ≤ sumZ (vI σ p m) n := by
            intro n
            induction n with
            | zero => intro k hk; omega
            | succ n ih =>
              intro k hk hn2
              have v1 : 0 ≤ vI σ p m n := nn (n + 1) (by omega) _
              show vI σ p m k ≤ sumZ (vI σ p m) n + vI σ p m n
              by_cases zk : k = n
              · have := sumZ_nn (f := vI σ p m) (n := n) (fun i hi => nn (i + 1) (by omega) _)
                rw [zk]; omega
              · have := ih k (by omega) (by omega)
                omega
          have := mem _ k0 hk0 (Nat.le_refl _)
          omega
        have sp : sumZ (fun m => FX τ (un τ 27 0) (bsT τ p m)) (n - 1) ≤ paid := Int.le_trans (sumZ_le pys) h1
        have s8 : sumZ (fun m => FX τ (un τ 27 0) (bsT τ p m)) (n - 1) ≤ ((n - 1 : Nat) : Int) * 100000000 := sumZ_bd fun m hm1 => (fb _ (b39 m (by omega))).2
        have l8 := (fb _ (b39 (n - 1) (by omega))).2
        have es : sumZ (fun m => FX τ (un τ 27 0) (bsT τ p m)) n = sumZ (fun m => FX τ (un τ 27 0) (bsT τ p m)) (n - 1) + FX τ (un τ 27 0) (bsT τ p (n - 1)) := by
          obtain ⟨q, rfl⟩ : ∃ q, n = q + 1 := ⟨n - 1, by omega⟩
          rfl
        rw [es]
        generalize sumZ (fun m => FX τ (un τ 27 0) (bsT τ p m)) (n - 1) = S at *
        generalize FX τ (un τ 27 0) (bsT τ p (n - 1)) = L at *
        generalize sumZ (fun m => (bsT τ p m : Int)) n = SB at *
        rcases hn with ⟨e1, e2⟩ | ⟨e1, e2⟩ <;> rw [e1] at sb s8 <;> rw [e2] <;> omega
      · -- it was made behind it
        have hpd : paid ≤ 280000 := h2 fun e he => by
          rw [(fr.2 e he).1]
          exact others e (Nat.lt_of_lt_of_le he fr.1) (fun q => xs (q ▸ he))
        clear small ev h1 h2 h fx tot ind
        rcases hb with hz | ⟨P, a1, a2, a3, a4⟩
        · have t : sumZ (fun m => FX τ (un τ 27 0) (bsT τ p m)) n = 0 := sumZ_0 fun m hm1 => by
            rw [hz m (by omega)]
            rcases cl2 with c | ⟨k, hk6, c⟩ <;> rw [c 0 (by decide)] <;> simp
          rw [t, Int.mul_zero]
          rcases hn with ⟨e1, e2⟩ | ⟨e1, e2⟩ <;> rw [e1] at sb ⊢ <;> omega
        · obtain ⟨d0, hd0, eb0⟩ := a3 0 (by decide)
          obtain ⟨d1, hd1, eb1⟩ := a3 10 (by decide)
          have bb : bsT τ p 0 ≤ 3999 := b39 0 (by decide)
          have bb1 : bsT τ p 10 ≤ 3999 := b39 10 (by decide)
          have fP0 : bsT τ p 0 = 0 → FX τ (un τ 27 0) (bsT τ p 0) = 0 := fun e => by
            rw [e]
            rcases cl2 with c | ⟨k, hk6, c⟩ <;> rw [c 0 (by decide)] <;> simp
          generalize hFe : FX τ (un τ 27 0) = Fe at *
          rcases hn with ⟨e1, e2⟩ | ⟨e1, e2⟩
          · subst e1
            rw [e2]
            have s9 : sumZ (fun m => Fe (bsT τ p m)) 9 = 0 + Fe (bsT τ p 0) + Fe (bsT τ p 1) + Fe (bsT τ p 2) + Fe (bsT τ p 3) + Fe (bsT τ p 4) + Fe (bsT τ p 5) + Fe (bsT τ p 6) + Fe (bsT τ p 7) + Fe (bsT τ p 8) := rfl
            rw [s9]
            rcases a4 with a4 | a4
            · rw [a4 1 (by decide) (by decide), a4 2 (by decide) (by decide), a4 3 (by decide) (by decide), a4 4 (by decide) (by decide), a4 5 (by decide) (by decide), a4 6 (by decide) (by decide), a4 7 (by decide) (by decide), a4 8 (by decide) (by decide)]
              generalize sumZ (fun m => (bsT τ p m : Int)) 9 = SB at *
              rcases cl2 with c | ⟨k, hk6, c⟩
              · rw [c P a2, c _ bb]
                have p3 := cube_le a1
                have q := nb_9c (b0 := bsT τ p 0)
                omega
              · rw [c P a2, c _ bb]
                have q := nb_9k a2 hd0 eb0 hk6
                have e : 5 * k * (8 * (P * P) + bsT τ p 0 * bsT τ p 0) = 40 * (k * (P * P)) + 5 * (k * (bsT τ p 0 * bsT τ p 0)) := by
                  rw [Nat.mul_add, Nat.mul_assoc 5 k (8 * (P * P)), Nat.mul_left_comm k 8, Nat.mul_assoc 5 k (bsT τ p 0 * bsT τ p 0)]
                  omega
                rw [e] at q
                have kp : k * (P * P) ≤ 6 * (3999 * 3999) := Nat.mul_le_mul hk6 (Nat.mul_le_mul a2 a2)
                have k0 : k * (bsT τ p 0 * bsT τ p 0) ≤ 6 * (3999 * 3999) := Nat.mul_le_mul hk6 (Nat.mul_le_mul bb bb)
                generalize k * (P * P) = KP_ at *
                generalize k * (bsT τ p 0 * bsT τ p 0) = K0 at *
                omega
            · rw [fP0 a4]
              have f1 := (fb _ (b39 1 (by decide))).2
              have f2 := (fb _ (b39 2 (by decide))).2
              have f3 := (fb _ (b39 3 (by decide))).2
              have f4 := (fb _ (b39 4 (by decide))).2
              have f5 := (fb _ (b39 5 (by decide))).2
              have f6 := (fb _ (b39 6 (by decide))).2
              have f7 := (fb _ (b39 7 (by decide))).2
              have f8 := (fb _ (b39 8 (by decide))).2
              omega
          · subst e1
            rw [e2]
            have s11 : sumZ (fun m => Fe (bsT τ p m)) 11 = 0 + Fe (bsT τ p 0) + Fe (bsT τ p 1) + Fe (bsT τ p 2) + Fe (bsT τ p 3) + Fe (bsT τ p 4) + Fe (bsT τ p 5) + Fe (bsT τ p 6) + Fe (bsT τ p 7) + Fe (bsT τ p 8) + Fe (bsT τ p 9) + Fe (bsT τ p 10) := rfl
            rcases cl2 with c | ⟨k, hk6, c⟩
            · rw [s11]
              rcases a4 with a4 | a4
              · rw [a4 1 (by decide) (by decide), a4 2 (by decide) (by decide), a4 3 (by decide) (by decide), a4 4 (by decide) (by decide), a4 5 (by decide) (by decide), a4 6 (by decide) (by decide), a4 7 (by decide) (by decide), a4 8 (by decide) (by decide), a4 9 (by decide) (by decide)]
                rw [c P a2, c _ bb, c _ bb1]
                have p3 := cube_le a1
                have q := nb_11 a1 a2 hd0 hd1 eb0 eb1
                generalize sumZ (fun m => (bsT τ p m : Int)) 11 = SB at *
                omega
              · rw [fP0 a4]
                have f1 := (fb _ (b39 1 (by decide))).2
                have f2 := (fb _ (b39 2 (by decide))).2
                have f3 := (fb _ (b39 3 (by decide))).2
                have f4 := (fb _ (b39 4 (by decide))).2
                have f5 := (fb _ (b39 5 (by decide))).2
                have f6 := (fb _ (b39 6 (by decide))).2
                have f7 := (fb _ (b39 7 (by decide))).2
                have f8 := (fb _ (b39 8 (by decide))).2
                have f9 := (fb _ (b39 9 (by decide))).2
                have f10 := (fb _ bb1).2
                omega
            · have t : sumZ (fun m => Fe (bsT τ p m)) 11 ≤ ((11 : Nat) : Int) * 95952006 := sumZ_bd fun m hm1 => by
                have b := b39 m (by omega)
                rw [c _ b]
                have : k * (bsT τ p m * bsT τ p m) ≤ 6 * (3999 * 3999) := Nat.mul_le_mul hk6 (Nat.mul_le_mul b b)
                omega
              omega
end Exc
