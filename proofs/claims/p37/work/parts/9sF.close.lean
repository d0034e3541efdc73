/-! THE INVARIANT: closing -/
theorem sumZ_lo {f : Nat → Int} {B : Int} : ∀ {n : Nat}, (∀ i, i < n → -B ≤ f i) → -(n * B) ≤ sumZ f n
  | 0, _ => by simp [sumZ]
  | n + 1, h => by
    have ih := sumZ_lo (f := f) (B := B) (n := n) (fun i hi => h i (by omega))
    have l := h n (by omega)
    show -(((n + 1 : Nat) : Int) * B) ≤ sumZ f n + f n
    rw [Int.natCast_add, Int.add_mul]
    omega
theorem py_bd {τ : Mu} (hw : WF τ) {p m : Nat} (hp : p < 6) (had : AD τ p) (hm : m < 24) : bdL (pyL τ p m) 1000000000000000 := by
  obtain ⟨b1, b2⟩ := bk_I had hm
  have hl := (lvL_I hw hp hm).2.2
  have hl1 := hl.1
  have hl2 := hl.2
  have e := (pyL_I hw hp had hm).1
  exact ⟨by omega, by omega⟩
/-- what is owed in all, by this closing -/
def sgI (τ : Mu) (p : Nat) : Int := sumZ (fun m => (pyL τ p m).toInt) (un τ 46 46 + 1)
theorem sg_I {τ : Mu} (hw : WF τ) {p : Nat} (hp : p < 6) (had : AD τ p) (ho : un τ 46 46 < 24) : (sumL (pyL τ p) (un τ 46 46 + 1)).toInt = sgI τ p ∧ bdL (sumL (pyL τ p) (un τ 46 46 + 1)) 1000000000000000000 := by
  have b : ∀ i, i < un τ 46 46 + 1 → bdL (pyL τ p i) 1000000000000000 := fun i hi => py_bd hw hp had (by omega)
  have e := sumL_I (f := pyL τ p) (B := 1000000000000000) (n := un τ 46 46 + 1) b (Nat.lt_of_le_of_lt (Nat.mul_le_mul_right _ (show un τ 46 46 + 1 ≤ 24 by omega)) (by decide))
  have l := sumZ_lo (f := fun i => (pyL τ p i).toInt) (B := 1000000000000000) (n := un τ 46 46 + 1) (fun i hi => by have := (b i hi).1; show -(1000000000000000 : Int) ≤ (pyL τ p i).toInt; omega)
  have u := sumZ_bd (f := fun i => (pyL τ p i).toInt) (B := 1000000000000000) (n := un τ 46 46 + 1) (fun i hi => by have := (b i hi).2; show (pyL τ p i).toInt ≤ (1000000000000000 : Int); omega)
  rw [← e] at l u
  exact ⟨e, by omega, by omega⟩
theorem cl_pos {τ : Mu} {q : Nat} (hq : q < 6) (h : lN 0 < dueP τ (clS τ q) q) (hN : un (clS τ q) 51 51 < 1000) : un (clS τ (q + 1)) 51 51 = un (clS τ q) 51 51 + 1 ∧ (un (clS τ (q + 1)) 47 (un (clS τ q) 51 51) = q ∧ un (clS τ (q + 1)) 50 (un (clS τ q) 51 51) = 0 ∧ (clS τ (q + 1)).2 49 (un (clS τ q) 51 51) = dueP τ (clS τ q) q) ∧ ∀ k, k ≠ un (clS τ q) 51 51 → un (clS τ (q + 1)) 47 k = un (clS τ q) 47 k ∧ un (clS τ (q + 1)) 50 k = un (clS τ q) 50 k ∧ (clS τ (q + 1)).2 49 k = (clS τ q).2 49 k := by
  have e : clS τ (q + 1) = sI (sI (sL (sI (sI (clS τ q) 47 (un (clS τ q) 51 51) (nI q)) 48 (un (clS τ q) 51 51) (nI (un τ 46 46))) 49 (un (clS τ q) 51 51) (dueP τ (clS τ q) q)) 50 (un (clS τ q) 51 51) (nI 0)) 51 51 (nI (un (clS τ q) 51 51 + 1)) := if_pos h
  rw [e]
  generalize dueP τ (clS τ q) q = d
  generalize clS τ q = S at *
  have r47 : (sI (sI (sL (sI (sI S 47 (un S 51 51) (nI q)) 48 (un S 51 51) (nI (un τ 46 46))) 49 (un S 51 51) d) 50 (un S 51 51) (nI 0)) 51 51 (nI (un S 51 51 + 1))).1 47 = (sI S 47 (un S 51 51) (nI q)).1 47 := (sI_r (by decide)).trans ((sI_r (by decide)).trans (show (sI (sI S 47 (un S 51 51) (nI q)) 48 (un S 51 51) (nI (un τ 46 46))).1 47 = _ from sI_r (by decide)))
  have r50 : (sI (sI (sL (sI (sI S 47 (un S 51 51) (nI q)) 48 (un S 51 51) (nI (un τ 46 46))) 49 (un S 51 51) d) 50 (un S 51 51) (nI 0)) 51 51 (nI (un S 51 51 + 1))).1 50 = (sI (sL (sI (sI S 47 (un S 51 51) (nI q)) 48 (un S 51 51) (nI (un τ 46 46))) 49 (un S 51 51) d) 50 (un S 51 51) (nI 0)).1 50 := sI_r (by decide)
  have r50o : (sL (sI (sI S 47 (un S 51 51) (nI q)) 48 (un S 51 51) (nI (un τ 46 46))) 49 (un S 51 51) d).1 50 = S.1 50 := (show (sI (sI S 47 (un S 51 51) (nI q)) 48 (un S 51 51) (nI (un τ 46 46))).1 50 = _ from (sI_r (by decide)).trans (sI_r (by decide)))
  refine ⟨un_of sI_s (by omega), ⟨un_of ((congrFun r47 _).trans sI_s) (by omega), un_of ((congrFun r50 _).trans sI_s) (by decide), (show (sL (sI (sI S 47 (un S 51 51) (nI q)) 48 (un S 51 51) (nI (un τ 46 46))) 49 (un S 51 51) d).2 49 (un S 51 51) = d from sL_s)⟩, fun k hk => ⟨un_cg ((congrFun r47 _).trans (sI_k hk)), un_cg ((congrFun r50 _).trans ((sI_k hk).trans (congrFun r50o _))), (show (sL (sI (sI S 47 (un S 51 51) (nI q)) 48 (un S 51 51) (nI (un τ 46 46))) 49 (un S 51 51) d).2 49 k = _ from sL_k hk)⟩⟩
/-- nothing came back before: nothing came back -/
theorem cl_b {τ : Mu} (hw : WF τ) (hnp : un τ 51 51 ≤ 6 * un τ 46 46) (ho : un τ 46 46 < 24) (h : ∀ k, k < un τ 51 51 → un τ 50 k = 0) : ∀ q, q ≤ 6 → ∀ k, k < un (clS τ q) 51 51 → un (clS τ q) 50 k = 0
  | 0, _ => h
  | q + 1, hq => fun k hk => by
    have ih := cl_b hw hnp ho h q (by omega)
    have hN := (clS_ok hw hnp ho q (by omega)).1.2
    by_cases c : lN 0 < dueP τ (clS τ q) q
    · obtain ⟨e51, ⟨a1, a2, a3⟩, old⟩ := cl_pos (by omega) c (by omega)
      rw [e51] at hk
      by_cases z : k = un (clS τ q) 51 51
      · rw [z]; exact a2
      · rw [(old k z).2.1]; exact ih k (by omega)
    · have e : clS τ (q + 1) = clS τ q := if_neg c
      rw [e] at hk ⊢
      exact ih k hk
/-- what is paid, person by person -/
theorem cl_ci {τ : Mu} (hw : WF τ) (hnp : un τ 51 51 ≤ 6 * un τ 46 46) (ho : un τ 46 46 < 24) (had : ∀ p, p < 6 → AD τ p) (hg : GP τ) (good : ∀ p, p < 3 → 0 < sgI τ p - paidI τ p (un τ 51 51) → GOOD (sgI τ p - paidI τ p (un τ 51 51))) : ∀ q, q ≤ 6 → GP (clS τ q) ∧ ∀ p, p < 3 → (q ≤ p → paidI (clS τ q) p (un (clS τ q) 51 51) = paidI τ p (un τ 51 51)) ∧ (p < q → paidI (clS τ q) p (un (clS τ q) 51 51) = sgI τ p ∨ (paidI (clS τ q) p (un (clS τ q) 51 51) = paidI τ p (un τ 51 51) ∧ sgI τ p ≤ paidI τ p (un τ 51 51)))
  | 0, _ => ⟨hg, fun p _ => ⟨fun _ => rfl, fun h => absurd h (Nat.not_lt_zero _)⟩⟩
  | q + 1, hq => by
    obtain ⟨ig, ip⟩ := cl_ci hw hnp ho had hg good q (by omega)
    have hN := (clS_ok hw hnp ho q (by omega)).1.2
    have wS := clS_wf hw hnp ho (q := q) (by omega)
    have sg := sg_I hw (p := q) (by omega) (had q (by omega)) ho
    have dI : q < 3 → (dueP τ (clS τ q) q).toInt = sgI τ q - paidI τ q (un τ 51 51) := fun h3 => by
      unfold dueP
      rw [pd_I wS ig (by omega) sg.2 _ (Nat.le_refl _), sg.1, (ip q h3).1 (Nat.le_refl _)]
    by_cases c : lN 0 < dueP τ (clS τ q) q
    · obtain ⟨e51, ⟨a1, a2, a3⟩, old⟩ := cl_pos (by omega) c (by omega)
      have c' : 0 < (dueP τ (clS τ q) q).toInt := by rw [Int64.lt_iff_toInt_lt, z0I] at c; exact c
      have pI : ∀ p, paidI (clS τ (q + 1)) p (un (clS τ q) 51 51) = paidI (clS τ q) p (un (clS τ q) 51 51) := fun p => by
        unfold paidI
        exact sumZ_cg fun k hk => by
          obtain ⟨o1, o2, o3⟩ := old k (by omega)
          rw [o1, o2, o3]
      have pN : ∀ p, paidI (clS τ (q + 1)) p (un (clS τ (q + 1)) 51 51) = paidI (clS τ q) p (un (clS τ q) 51 51) + (if q = p then (dueP τ (clS τ q) q).toInt else 0) := fun p => by
        rw [e51]
        show paidI (clS τ (q + 1)) p (un (clS τ q) 51 51) + (if un (clS τ (q + 1)) 47 (un (clS τ q) 51 51) = p ∧ un (clS τ (q + 1)) 50 (un (clS τ q) 51 51) = 0 then ((clS τ (q + 1)).2 49 (un (clS τ q) 51 51)).toInt else 0) = _
        rw [pI p, a1, a2, a3]
        by_cases z : q = p
        · rw [if_pos ⟨z, rfl⟩, if_pos z]
        · rw [if_neg (fun h => z h.1), if_neg z]
      refine ⟨fun k hk => ?_, fun p hp => ⟨fun h => ?_, fun h => ?_⟩⟩
      · rw [e51] at hk
        by_cases z : k = un (clS τ q) 51 51
        · rw [z, a1, a3]
          refine ⟨c', fun h2 => ?_⟩
          rw [dI (by omega)] at c' ⊢
          exact good q (by omega) c'
        · obtain ⟨o1, o2, o3⟩ := old k z
          rw [o1, o3]
          exact ig k (by omega)
      · rw [pN, if_neg (by omega), Int.add_zero]
        exact (ip p hp).1 (by omega)
      · rw [pN]
        by_cases z : q = p
        · subst z
          rw [if_pos rfl]
          left
          rw [(ip q hp).1 (Nat.le_refl _), dI hp]
          omega
        · rw [if_neg z, Int.add_zero]
          exact (ip p hp).2 (by omega)
    · have e : clS τ (q + 1) = clS τ q := if_neg c
      rw [e]
      refine ⟨ig, fun p hp => ⟨fun h => (ip p hp).1 (by omega), fun h => ?_⟩⟩
      by_cases z : q = p
      · subst z
        right
        refine ⟨(ip q hp).1 (Nat.le_refl _), ?_⟩
        have := dI hp
        rw [Int64.lt_iff_toInt_lt, z0I] at c
        omega
      · exact (ip p hp).2 (by omega)
theorem PZ.cg {σ τ : Mu} (h : PZ τ) (f : ∀ k, k < 46 → σ.1 k = τ.1 k) (f2 : σ.2 45 = τ.2 45) : PZ σ := by
  unfold PZ un
  rw [f 30 (by decide), f 31 (by decide), f 33 (by decide), f 37 (by decide), f 44 (by decide), f 13 (by decide), f 17 (by decide), f 9 (by decide), f2]
  exact h
theorem bs_39 {τ : Mu} (hw : WF τ) (z : PZ τ) (ho : OWN τ) (hk : PK τ) {p m : Nat} (hp : p < 3) (hm : m < 24) : bsT τ p m ≤ 3999 := by
  rcases pz_b hw z ho hk hp with h | ⟨P, a1, a2, a3, _⟩
  · rw [h m hm]; omega
  · obtain ⟨d, hd, e⟩ := a3 m hm
    rw [e]
    exact rq_le (by decide) (by have : P * d ≤ 3999 * 30 := Nat.mul_le_mul a2 hd; omega)
/-- elements of one word: small sums -/
theorem sg_1 {τ : Mu} (hw : WF τ) (z : PZ τ) (ho : OWN τ) (hk : PK τ) (hm : MO τ) {p : Nat} (hp : p < 3) (h24 : un τ 46 46 < 24) (h1 : ∀ e, e < un τ 26 26 → un τ 24 e = 1) : sgI τ p ≤ 28000 * (un τ 46 46 + 1 : Int) := by
  have hE := hw.ne.2
  have := sumZ_bd (f := fun m => (pyL τ p m).toInt) (B := 28000) (n := un τ 46 46 + 1) (fun m hm1 => by
    have b := bs_39 hw z ho hk hp (m := m) (by omega)
    have s := sumE1 (p := p) (m := m) (B := 3999) hw hm b (by rw [pz_hr hw z (by omega)]; omega) (by decide) (by decide) h1
    show (pyL τ p m).toInt ≤ 28000
    rw [pz_al hw z (by omega) (by omega)]
    omega)
  unfold sgI
  omega
section Steps
variable {e : Nat} {τ U : Mu} {n0 n1 n2 m0 m1 m2 : Nat} {told : Int32}
theorem stp_close (h : INV e τ n0 n1 n2) (he : e < 24) (g : AR_close τ n0 n1 n2 told U m0 m1 m2) : STEP e τ told U m0 m1 m2 := by
  obtain ⟨h24, rfl, rfl, rfl, rfl, rfl⟩ := g
  have h' := h
  obtain ⟨⟨hw, hk, _⟩, ⟨g0, g1, g2⟩, ⟨h6, h5⟩, hg, ho, hpk, hpy, hm, hs, hB, hA, hgp, hbu, hp⟩ := h
  obtain ⟨wU, kU⟩ := lk_close hw hk (by omega) (k_1 (decide_eq_true (by omega)))
  have hnp := hk.2.1
  have hE := hw.ne.2
  have o3 := ho.1
  have had : ∀ p, p < 6 → AD τ p := hk.ad (by omega)
  have ok6 := clS_ok hw hnp h24 6 (Nat.le_refl _)
  refine ⟨?_, fun q => absurd q (nin (by have := ok6.1.2; omega))⟩
  have f : ∀ j, j < 46 → (clU τ).1 j = τ.1 j := fun j hj => funext fun x => (clU_lo τ j hj x).1
  have f2 : (clU τ).2 45 = τ.2 45 := funext fun x => (clU_lo τ 45 (by decide) x).2
  have u46 : un (clU τ) 46 46 = un τ 46 46 + 1 := un_of sI_s (by omega)
  have f4 : ∀ j, 46 < j → j ≠ 54 → (clU τ).1 j = (clS τ 6).1 j := fun j a b => clU_1 ⟨by omega, b⟩
  have f49 : (clU τ).2 49 = (clS τ 6).2 49 := (congrFun (show (clU τ).2 = (flU (clS τ 6) (tx3 τ) (co3 τ) 72).2 from sI_2) 49).trans (flU_2 (by decide))
  generalize clU τ = U at *
  have u9 := un_g (i := 9) (f 9 (by decide))
  have u26 := un_g (i := 26) (f 26 (by decide))
  have u44 := un_g (i := 44) (f 44 (by decide))
  have u51 : un U 51 51 = un (clS τ 6) 51 51 := un_g (f4 51 (by decide) (by decide))
  have ub : BUD U = BUD τ + 1 := by
    unfold BUD
    rw [u46, u9, u26, un_g (k := 17) (f 17 (by decide)), un_g (k := 13) (f 13 (by decide)), un_g (k := 24) (i := 6) (f 24 (by decide)), show (fun e => un U 24 e) = fun e => un τ 24 e from funext fun e => un_g (f 24 (by decide))]
    omega
  have good : e ≤ 22 → ∀ p, p < 3 → 0 < sgI τ p - paidI τ p (un τ 51 51) → GOOD (sgI τ p - paidI τ p (un τ 51 51)) := fun h22 p hp3 pos => by
    have pin := (paid_in (hgp (by omega)) (show p ≤ 2 by omega) (un τ 51 51) (Nat.le_refl _)).1
    by_cases hx : (un τ 46 46 + 1 = 9 ∧ un τ 26 26 = 5 ∨ un τ 46 46 + 1 = 11 ∧ un τ 26 26 = 4) ∧ sumN (fun e => un τ 24 e) 0 (un τ 26 26) = un τ 26 26 + 4
    · have hb0 : BUD τ = e ∧ un τ 13 13 = 0 ∧ un τ 17 17 = 0 ∧ un τ 9 9 = 3 := by
        have hb := hbu
        unfold BUD at hb ⊢
        omega
      obtain ⟨z, hb, σ, ws, ms, ag, fr, hq⟩ := hp (by omega) hb0.1 hb0.2.1 hb0.2.2.1 hb0.2.2.2
      obtain ⟨q1, q2⟩ := hq p hp3
      have ex := exc hw ws z ho hpk hm ms ag fr (n := un τ 46 46 + 1) hp3 hx.1 hx.2 pin q1 (fun all => by have := q2 all; omega)
      exact ⟨pos, ex.1, ex.2⟩
    · have t : sgI τ p < 4294967288 := nh hw had hB hpy ho hs hm hp3 (n := un τ 46 46 + 1) h6 (by have := hbu; unfold BUD at this; omega) hx
      exact ⟨pos, by omega, by omega⟩
  have ci : e ≤ 22 → _ := fun h22 => cl_ci hw hnp h24 had (hgp (by omega)) (good h22) 6 (Nat.le_refl _)
  refine ⟨⟨wU, by rw [show e + 1 + 10 = e + 10 + 1 by omega]; exact kU, by omega⟩, ⟨by rw [u9]; exact g0, by rw [u26]; exact g1, by rw [u44]; exact g2⟩, ⟨by rw [u9]; exact h6, by rw [u44]; exact h5⟩, fun g hg1 => ?_, ho.cg (f 9 (by decide)) (f 0 (by decide)) (f 4 (by decide)), hpk.cg (f 2 (by decide)) (f 3 (by decide)) (f 7 (by decide)), hpy.cg (f 9 (by decide)) (f 7 (by decide)), hm.cg (f 22 (by decide)) (f 23 (by decide)) (f 24 (by decide)), hs.cg (f 8 (by decide)) (f 9 (by decide)) (f 11 (by decide)) (f 13 (by decide)), hB.cg (f 30 (by decide)), fun i hi => by rw [f2]; exact hA.up i hi, fun h23 => (ci (by omega)).1.cg (f4 47 (by decide) (by decide)) (f4 51 (by decide) (by decide)) f49, by rw [ub]; omega, fun q0 q1 q2 q3 q4 => ?_⟩
  · rw [u44] at hg1
    rw [un_g (f 38 (by decide))]
    exact hg g hg1
  · have ci6 := (ci (by omega)).2
    obtain ⟨z, hb, σ, ws, ms, ag, fr, hq⟩ := hp (by omega) (by omega) (by rw [← un_g (f 13 (by decide))]; exact q2) (by rw [← un_g (f 17 (by decide))]; exact q3) (by rw [← u9]; exact q4)
    have m : MO U := hm.cg (f 22 (by decide)) (f 23 (by decide)) (f 24 (by decide))
    refine ⟨z.cg f f2, fun k hk1 => ?_, U, wU, m, ⟨fun _ _ => rfl, rfl⟩, ⟨Nat.le_refl _, fun _ _ => ⟨rfl, rfl, fun _ _ => ⟨rfl, rfl⟩⟩⟩, fun p hp3 => ?_⟩
    · rw [u51] at hk1
      rw [un_g (f4 50 (by decide) (by decide))]
      exact cl_b hw hnp h24 hb 6 (Nat.le_refl _) k hk1
    · have vp : VP p τ U := VP.of hw (fun k hk => f k (by omega)) (fun m _ => by rw [f2])
      have es : sumZ (fun m => (pyL U p m).toInt) (un U 46 46) = sgI τ p := by
        rw [u46]
        unfold sgI
        exact sumZ_cg fun m hm1 => by rw [vp.py (by omega)]
      have ep : paidI U p (un U 51 51) = paidI (clS τ 6) p (un (clS τ 6) 51 51) := by
        rw [u51]
        unfold paidI
        exact sumZ_cg fun k _ => by rw [un_g (k := 47) (f4 47 (by decide) (by decide)), un_g (k := 50) (f4 50 (by decide) (by decide)), f49]
      rw [es, ep]
      have c6 := (ci6 p hp3).2 (by omega)
      obtain ⟨o1, o2⟩ := hq p hp3
      refine ⟨by omega, fun all => ?_⟩
      have all1 : ∀ e, e < un τ 26 26 → un τ 24 e = 1 := fun e he1 => by
        rw [← un_g (f 24 (by decide))]
        exact all e (by rw [u26]; exact he1)
      have s1 := sg_1 hw z ho hpk hm hp3 h24 all1
      have s2 := o2 (fun e he1 => by rw [(fr.2 e he1).1]; exact all1 e (Nat.lt_of_lt_of_le he1 fr.1))
      rw [u46]
      rcases c6 with c6 | ⟨c6, _⟩
      · rw [c6]; omega
      · rw [c6]; omega
end Steps
