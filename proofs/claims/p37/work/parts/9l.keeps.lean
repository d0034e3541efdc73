/-! THE LAW: each method keeps what stands between calls -/
theorem sI_2 {τ : Mu} {k x : Nat} {v : Int32} : (sI τ k x v).2 = τ.2 := rfl
theorem an {a b : Bool} (h : (a && b) = true) : a = true ∧ b = true := Bool.and_eq_true_iff.mp h

theorem lk_leaveRule {τ : Mu} {n9 : Nat} {x y z : Int32} (hw : WF τ) (hk : LK n9 τ) (hn9 : n9 ≤ 600) (h : (cd1 (inB x (lN 0) (lN 50) && inB y (lN 0) (lN 500) && inB z (lN 1) (lN 12))) = 0) : WF (sI (sI (sI τ 18 18 x) 19 19 y) 20 20 z) ∧ LK (n9 + 1) (sI (sI (sI τ 18 18 x) 19 19 y) 20 20 z) := by
  obtain ⟨h12, h3⟩ := an (cd1_0 h)
  obtain ⟨h1, h2⟩ := an h12
  obtain ⟨a, _, ha, rfl⟩ := inB_N (by decide) (by decide) h1
  obtain ⟨b, _, hb, rfl⟩ := inB_N (by decide) (by decide) h2
  obtain ⟨c, _, hc, rfl⟩ := inB_N (by decide) (by decide) h3
  exact ⟨wf_leaveRule hw ha hb hc, hk.up.cg rfl rfl rfl rfl rfl rfl⟩
theorem lk_contribution {τ : Mu} {n9 : Nat} {x y z t : Int32} (hw : WF τ) (hk : LK n9 τ) (hn9 : n9 ≤ 600) (h : (cd2 (rng x 3 && rng y 24) (inB z (lN 0) (lN 500) && inB t (lN 0) (lN 100000000))) = 0) : WF (sI (sI τ 31 (24 * x.toNatClampNeg + y.toNatClampNeg) z) 32 (24 * x.toNatClampNeg + y.toNatClampNeg) t) ∧ LK (n9 + 1) (sI (sI τ 31 (24 * x.toNatClampNeg + y.toNatClampNeg) z) 32 (24 * x.toNatClampNeg + y.toNatClampNeg) t) := by
  obtain ⟨_, h1⟩ := cd2_0 h
  obtain ⟨h1, h2⟩ := an h1
  obtain ⟨a, _, ha, rfl⟩ := inB_N (by decide) (by decide) h1
  obtain ⟨b, _, hb, rfl⟩ := inB_N (by decide) (by decide) h2
  exact ⟨wf_contribution hw ha hb, hk.up.cg rfl rfl rfl rfl rfl rfl⟩
theorem lk_state {τ : Mu} {n9 : Nat} {x y z : Int32} (hw : WF τ) (hk : LK n9 τ) (hn9 : n9 ≤ 600) (h : (cd2 (rng x 6 && rng y 24) (inB z (lN 0) (lN 1))) = 0) : WF (sI τ 36 (24 * x.toNatClampNeg + y.toNatClampNeg) z) ∧ LK (n9 + 1) (sI τ 36 (24 * x.toNatClampNeg + y.toNatClampNeg) z) := by
  obtain ⟨_, h1⟩ := cd2_0 h
  obtain ⟨a, _, ha, rfl⟩ := inB_N (by decide) (by decide) h1
  exact ⟨wf_state hw ha, hk.up.cg rfl rfl rfl rfl rfl rfl⟩
theorem lk_pension {τ : Mu} {n9 : Nat} {x y z : Int32} (hw : WF τ) (hk : LK n9 τ) (hn9 : n9 ≤ 600) (h : (cd2 (rng x 6 && rng y 24) (inB z (lN 0) (lN 200))) = 0) : WF (sI τ 37 (24 * x.toNatClampNeg + y.toNatClampNeg) z) ∧ LK (n9 + 1) (sI τ 37 (24 * x.toNatClampNeg + y.toNatClampNeg) z) := by
  obtain ⟨_, h1⟩ := cd2_0 h
  obtain ⟨a, _, ha, rfl⟩ := inB_N (by decide) (by decide) h1
  exact ⟨wf_pension hw ha, hk.up.cg rfl rfl rfl rfl rfl rfl⟩
theorem lk_comeBack {τ : Mu} {n9 : Nat} {x : Int32} (hw : WF τ) (hk : LK n9 τ) (hn9 : n9 ≤ 600) (h : (cd2 (rng x (un τ 51 51)) (decide (un τ 50 x.toNatClampNeg ≠ 1))) = 0) : WF (sI τ 50 x.toNatClampNeg (nI 1)) ∧ LK (n9 + 1) (sI τ 50 x.toNatClampNeg (nI 1)) := by
  exact ⟨wf_comeBack hw, hk.up.cg rfl rfl rfl rfl rfl rfl⟩
theorem lk_bonus {τ : Mu} {n9 : Nat} {x y z t : Int32} (hw : WF τ) (hk : LK n9 τ) (hn9 : n9 ≤ 600) (h : (cd2 (rng x 6 && rng y 24 && rng z 3) (inB t (-10000000) (lN 10000000))) = 0) : WF (sI τ 30 (72 * x.toNatClampNeg + 3 * y.toNatClampNeg + z.toNatClampNeg) t) ∧ LK (n9 + 1) (sI τ 30 (72 * x.toNatClampNeg + 3 * y.toNatClampNeg + z.toNatClampNeg) t) := by
  obtain ⟨_, h1⟩ := cd2_0 h
  have hb := bn_b h1
  have hb2 : t.toInt ≤ 10000000 := by
    unfold inB at h1
    rw [decide_eq_true_iff, Int64.le_iff_toInt_le, Int64.le_iff_toInt_le, Int32.toInt_toInt64, show (-10000000 : Int64).toInt = -10000000 from rfl, show (lN 10000000).toInt = 10000000 from rfl] at h1
    omega
  refine ⟨wf_bonus hw hb.1 hb.2, hk.up.1, hk.up.2.1, fun i hi => ?_, hk.up.2.2.2⟩
  by_cases e : i = 72 * x.toNatClampNeg + 3 * y.toNatClampNeg + z.toNatClampNeg
  · rw [e, sI_s]; exact ⟨hb.1, hb2⟩
  · rw [sI_k e]; exact hk.2.2.1 i hi
theorem lk_advance {τ : Mu} {n9 : Nat} {x y : Int32} (hw : WF τ) (hk : LK n9 τ) (hn9 : n9 ≤ 600) (h : (cd3 (rng x 6) (inB y (lN 1) (lN 1000000)) (decide (un τ 46 46 ≠ 24))) = 0) : WF (sL τ 45 (24 * x.toNatClampNeg + un τ 46 46) (τ.2 45 (24 * x.toNatClampNeg + un τ 46 46) + y.toInt64)) ∧ LK (n9 + 1) (sL τ 45 (24 * x.toNatClampNeg + un τ 46 46) (τ.2 45 (24 * x.toNatClampNeg + un τ 46 46) + y.toInt64)) := by
  obtain ⟨_, h2, h3⟩ := cd3_0 h
  obtain ⟨a, ha0, ha, rfl⟩ := inB_N (by decide) (by decide) h2
  refine ⟨wf_advance hw, hk.up.1, hk.up.2.1, hk.up.2.2.1, fun i hi => ?_⟩
  by_cases e : i = 24 * x.toNatClampNeg + un τ 46 46
  · obtain ⟨b1, b2⟩ := hk.2.2.2 i hi
    rw [e] at b1 b2
    rw [e, sL_s, nI_l (by omega)]
    have hv : (lN a).toInt = (a : Int) := pk_lT (by omega)
    rw [bd_addI (A := 100000000 * n9) (B := 1000000) ⟨by omega, by omega⟩ ⟨by omega, by omega⟩ (by omega), hv]
    exact ⟨by omega, by omega⟩
  · rw [sL_k e]; exact hk.up.2.2.2 i hi
theorem lk_garnish {τ : Mu} {n9 : Nat} {x y z t n u : Int32} (hw : WF τ) (hk : LK n9 τ) (hn9 : n9 ≤ 600) (h : (cd3 (rng x 6 && rng y 24) (inB z (lN 0) (lN 9) && inB t (lN 1) (lN 100000000) && inB n (lN 1) (lN 1000) && inB u (lN 0) (lN 100000000)) (decide (un τ 44 44 ≠ 6))) = 0) : WF (sI (sI (sI (sI (sI (sI (sI τ 38 (un τ 44 44) x) 39 (un τ 44 44) y) 40 (un τ 44 44) z) 41 (un τ 44 44) t) 42 (un τ 44 44) n) 43 (un τ 44 44) u) 44 44 (nI (un τ 44 44 + 1))) ∧ LK (n9 + 1) (sI (sI (sI (sI (sI (sI (sI τ 38 (un τ 44 44) x) 39 (un τ 44 44) y) 40 (un τ 44 44) z) 41 (un τ 44 44) t) 42 (un τ 44 44) n) 43 (un τ 44 44) u) 44 44 (nI (un τ 44 44 + 1))) := by
  obtain ⟨h1, h2, h3⟩ := cd3_0 h
  obtain ⟨hx, hy⟩ := an h1
  obtain ⟨a, ha, rfl⟩ := rng_t hx
  obtain ⟨b, hb, rfl⟩ := rng_t hy
  obtain ⟨h2, gf⟩ := an h2
  obtain ⟨h2, ge⟩ := an h2
  obtain ⟨gc, gd⟩ := an h2
  obtain ⟨c, _, hc, rfl⟩ := inB_N (by decide) (by decide) gc
  obtain ⟨d, _, hd, rfl⟩ := inB_N (by decide) (by decide) gd
  obtain ⟨e, _, he, rfl⟩ := inB_N (by decide) (by decide) ge
  obtain ⟨f, _, hf, rfl⟩ := inB_N (by decide) (by decide) gf
  exact ⟨wf_garnish hw (of_decide_eq_true h3) (by omega) (by omega) hc hd he hf, hk.up.cg rfl rfl rfl rfl rfl rfl⟩
theorem lk_leave {τ : Mu} {n9 : Nat} {x y : Int32} (hw : WF τ) (hk : LK n9 τ) (hn9 : n9 ≤ 600) (h : (cd2 (isOfB τ x y) (decide (un τ 17 17 ≠ 30))) = 0) : WF (sI (sI (sI τ 14 (un τ 17 17) x) 15 (un τ 17 17) y) 17 17 (nI (un τ 17 17 + 1))) ∧ LK (n9 + 1) (sI (sI (sI τ 14 (un τ 17 17) x) 15 (un τ 17 17) y) 17 17 (nI (un τ 17 17 + 1))) := by
  obtain ⟨h1, h2⟩ := cd2_0 h
  obtain ⟨c, d, hc, hd1, hd2, rfl, rfl⟩ := isOf_t hw h1
  exact ⟨wf_leave hw (of_decide_eq_true h2) hc hd1 hd2, hk.up.cg rfl rfl rfl rfl rfl rfl⟩
theorem lk_shift {τ : Mu} {n9 : Nat} {x y z w : Int32} (hw : WF τ) (hk : LK n9 τ) (hn9 : n9 ≤ 600) (h : (cd3 (isOfB τ x y) (inB z (lN 0) (lN 1439) && inB w (lN 1) (lN 1440)) (shB τ x y z w)) = 0) : WF (shU τ x.toNatClampNeg y.toNatClampNeg z.toNatClampNeg w.toNatClampNeg) ∧ LK (n9 + 1) (shU τ x.toNatClampNeg y.toNatClampNeg z.toNatClampNeg w.toNatClampNeg) := by
  obtain ⟨h1, h2, h3⟩ := cd3_0 h
  obtain ⟨c, d, hc, hd1, hd2, rfl, rfl⟩ := isOf_t hw h1
  obtain ⟨gm, gn⟩ := an h2
  obtain ⟨m, _, hm, rfl⟩ := inB_N (by decide) (by decide) gm
  obtain ⟨n, hn0, hn, rfl⟩ := inB_N (by decide) (by decide) gn
  obtain ⟨h40, _⟩ := an h3
  have h9 := hw.nc.2
  have hct := (hw.ct c hc).2
  rw [nI_clamp (n := c) (by omega), nI_clamp (n := d) (by omega), nI_clamp (n := m) (by omega), nI_clamp (n := n) (by omega)]
  refine ⟨wf_shift hw (of_decide_eq_true h40) hc hd1 hd2 hm ⟨hn0, hn⟩, ?_⟩
  unfold shU
  split
  · exact hk.up.cg rfl rfl rfl rfl rfl rfl
  · exact hk.up.cg rfl rfl rfl rfl rfl rfl
theorem lk_pay {τ : Mu} {n9 : Nat} {x y z : Int32} (hw : WF τ) (hk : LK n9 τ) (hn9 : n9 ≤ 600) (h : (cd2 (rng x (un τ 9 9) && rng y 720) (inB z (lN 0) (lN 1000000))) = 0) : WF (spS (sI τ 6 (720 * x.toNatClampNeg + (if y.toNatClampNeg < un τ 2 x.toNatClampNeg then un τ 2 x.toNatClampNeg else y.toNatClampNeg)) z) x.toNatClampNeg 720) ∧ LK (n9 + 1) (spS (sI τ 6 (720 * x.toNatClampNeg + (if y.toNatClampNeg < un τ 2 x.toNatClampNeg then un τ 2 x.toNatClampNeg else y.toNatClampNeg)) z) x.toNatClampNeg 720) := by
  obtain ⟨h1, h2⟩ := cd2_0 h
  obtain ⟨hx, hy⟩ := an h1
  obtain ⟨c, hc, rfl⟩ := rng_t hx
  obtain ⟨d, hd, rfl⟩ := rng_t hy
  obtain ⟨v, _, hv, rfl⟩ := inB_N (by decide) (by decide) h2
  have h9 := hw.nc.2
  have hcf := (hw.cf c hc).2
  rw [nI_clamp (n := c) (by omega), nI_clamp (n := d) (by omega)]
  have hj : (if d < un τ 2 c then un τ 2 c else d) < 720 := by split <;> omega
  generalize (if d < un τ 2 c then un τ 2 c else d) = j at hj ⊢
  refine ⟨wf_pay hw (by omega) ⟨by omega, by omega⟩ hv, fun i h1 h2 => ?_, hk.up.2.1, hk.up.2.2.1, hk.up.2.2.2⟩
  have h1 : 720 * un τ 9 9 ≤ i := h1
  rw [spS_o _ _ _ _ _ (by decide), sI_k (by omega)]
  exact hk.1 i h1 h2
theorem lk_contract {τ : Mu} {n9 : Nat} {x y z t : Int32} {b : Bool} {n u : Int32} (hw : WF τ) (hk : LK n9 τ) (hn9 : n9 ≤ 600) (h : (cd3 (rng x 6 && rng y 3 && rng z 720 && rng t 720) (decide (z ≤ t) && inB n (lN 60) (lN 600) && inB u (lN 0) (lN 1000000)) (decide (un τ 9 9 ≠ 10))) = 0) : WF (sI (spS (sI (sI (sI (sI (sI (sI (sI τ 0 (un τ 9 9) x) 1 (un τ 9 9) y) 2 (un τ 9 9) z) 3 (un τ 9 9) t) 4 (un τ 9 9) (bI b)) 5 (un τ 9 9) n) 6 (720 * un τ 9 9 + z.toNatClampNeg) u) (un τ 9 9) 720) 9 9 (nI (un τ 9 9 + 1))) ∧ LK (n9 + 1) (sI (spS (sI (sI (sI (sI (sI (sI (sI τ 0 (un τ 9 9) x) 1 (un τ 9 9) y) 2 (un τ 9 9) z) 3 (un τ 9 9) t) 4 (un τ 9 9) (bI b)) 5 (un τ 9 9) n) 6 (720 * un τ 9 9 + z.toNatClampNeg) u) (un τ 9 9) 720) 9 9 (nI (un τ 9 9 + 1))) := by
  obtain ⟨h1, h2, h3⟩ := cd3_0 h
  obtain ⟨h1, ht⟩ := an h1
  obtain ⟨h1, hz⟩ := an h1
  obtain ⟨hx, hy⟩ := an h1
  obtain ⟨p, hp, rfl⟩ := rng_t hx
  obtain ⟨q, hq, rfl⟩ := rng_t hy
  obtain ⟨f, hf, rfl⟩ := rng_t hz
  obtain ⟨s, hs, rfl⟩ := rng_t ht
  obtain ⟨h2, hu⟩ := an h2
  obtain ⟨hft, hn⟩ := an h2
  obtain ⟨w, hw0, hw6, rfl⟩ := inB_N (by decide) (by decide) hn
  obtain ⟨v, _, hv, rfl⟩ := inB_N (by decide) (by decide) hu
  have hft := le_N rfl rfl (by omega) (by omega) hft
  have h9 := hw.nc.2
  have hn9 : un τ 9 9 ≠ 10 := of_decide_eq_true h3
  rw [bI_nn, nI_clamp (n := f) (by omega)]
  have hN := co_f (τ := τ) (p := p) (q := q) (f := f) (t := s) (b := if b = true then 1 else 0) (w := w) (v := v) (by omega) (by omega) (by omega) (by omega) (by omega) (by split <;> decide) (by omega)
  refine ⟨wf_contract hw hn9 (by omega) (by omega) hft (by omega) (by split <;> decide) hw0 hw6 hv, ?_⟩
  change LK (n9 + 1) (coV τ p q f s (if b = true then 1 else 0) w v)
  generalize coV τ p q f s (if b = true then 1 else 0) w v = U at hN ⊢
  obtain ⟨g1, g2, g3, _, _, g6, _⟩ := hN
  refine ⟨fun i h1 h2 => ?_, ?_, fun i hi => ?_, fun i hi => ?_⟩
  · rw [g3] at h1
    rw [g6 i (by omega)]
    exact hk.1 i (by omega) h2
  · rw [show un U 51 51 = un τ 51 51 by unfold un; rw [g1 51 (by decide)], show un U 46 46 = un τ 46 46 by unfold un; rw [g1 46 (by decide)]]
    exact hk.2.1
  · rw [g1 30 (by decide)]; exact hk.2.2.1 i hi
  · rw [g2 45]; exact hk.up.2.2.2 i hi
theorem lk_close {τ : Mu} {n9 : Nat} (hw : WF τ) (hk : LK n9 τ) (hn9 : n9 ≤ 600) (h : (cd1 (decide (un τ 46 46 ≠ 24))) = 0) : WF (clU τ) ∧ LK (n9 + 1) (clU τ) := by
  have ho : un τ 46 46 ≠ 24 := of_decide_eq_true (cd1_0 h)
  have h46 := hw.op.2
  have e : ∀ k, k ≤ 45 → (clU τ).1 k = τ.1 k := fun k hk => (clU_1 (by omega)).trans (clS_1 (by omega))
  refine ⟨wf_close hw hk.2.1 (by omega), fun i h1 h2 => ?_, np_close hw hk.2.1 (by omega), fun i hi => ?_, fun i hi => ?_⟩
  · rw [show un (clU τ) 9 9 = un τ 9 9 by unfold un; rw [e 9 (by decide)]] at h1
    rw [e 6 (by decide)]; exact hk.1 i h1 h2
  · rw [e 30 (by decide)]; exact hk.2.2.1 i hi
  · rw [show (clU τ).2 45 = τ.2 45 from (congrFun (show (clU τ).2 = (flU (clS τ 6) (tx3 τ) (co3 τ) 72).2 from sI_2) 45).trans ((flU_2 (by decide)).trans (clS_2 (by decide)))]
    exact hk.up.2.2.2 i hi
theorem lk_word {τ : Mu} {n9 : Nat} {x y : Int32} (hw : WF τ) (hk : LK n9 τ) (hn9 : n9 ≤ 600) (h : (cd2 (inB x (lN 0) (lN 9) && (decide (x ≠ nI 2) || inB y (lN 0) (lN 5)) && (decide (x ≠ nI 3) || inB y (-1000000) (lN 1000000))) (wdB τ x)) = 0) : WF (sI (sI (sI τ 22 (60 + un τ 24 6) x) 23 (60 + un τ 24 6) y) 24 6 (nI (un τ 24 6 + 1))) ∧ LK (n9 + 1) (sI (sI (sI τ 22 (60 + un τ 24 6) x) 23 (60 + un τ 24 6) y) 24 6 (nI (un τ 24 6 + 1))) := by
  obtain ⟨h1, h2⟩ := cd2_0 h
  obtain ⟨h1, _⟩ := an h1
  obtain ⟨hx, hy⟩ := an h1
  obtain ⟨a, _, ha, rfl⟩ := inB_N (by decide) (by decide) hx
  obtain ⟨h2, h3⟩ := an h2
  have h24 := (hw.el 6 (by decide)).2
  have h10 : un τ 24 6 ≠ 10 := of_decide_eq_true h2
  refine ⟨wf_word hw (by omega) ha (fun e => ?_) (fun e => ?_), hk.up.cg rfl rfl rfl rfl rfl rfl⟩
  · subst e
    rw [Bool.or_eq_true] at hy
    rcases hy with hy | hy
    · exact absurd rfl (of_decide_eq_true hy)
    · obtain ⟨b, _, hb, e2⟩ := inB_N (by decide) (by decide) hy
      exact ⟨b, hb, e2⟩
  · rw [Bool.or_eq_true] at h3
    rcases h3 with h3 | h3
    · have := le_N rfl rfl (by omega) (by decide) h3
      omega
    · exact of_decide_eq_true h3
theorem lk_element {τ : Mu} {n9 : Nat} {x y : Int32} (hw : WF τ) (hk : LK n9 τ) (hn9 : n9 ≤ 600) (h : (cd3 (inB x (lN 0) (lN (un τ 26 26)) && decide (x < nI 6)) (inB y (lN 0) (lN 63)) (elB τ x)) = 0) : WF (elU τ x.toNatClampNeg y.toNatClampNeg) ∧ LK (n9 + 1) (elU τ x.toNatClampNeg y.toNatClampNeg) := by
  obtain ⟨h1, h2, h3⟩ := cd3_0 h
  have h26 := hw.ne.2
  obtain ⟨c, hc, hc6, rfl⟩ := et_2 (by omega) h1
  obtain ⟨d, _, hd, rfl⟩ := inB_N (by decide) (by decide) h2
  unfold elB at h3
  rw [nI_clamp (n := c) (by omega), Bool.and_eq_true, decide_eq_true_iff, Bool.not_eq_true'] at h3
  rw [nI_clamp (n := c) (by omega), nI_clamp (n := d) (by omega)]
  exact ⟨wf_element hw hc hc6 hd h3.1 h3.2, hk.up.cg rfl rfl rfl rfl rfl rfl⟩
theorem lk_bracket {τ : Mu} {n9 : Nat} {x y z t n : Int32} (hw : WF τ) (hk : LK n9 τ) (hn9 : n9 ≤ 600) (h : (cd3 (rng x 3 && rng z 24) (inB y (lN 0) (lN 1) && inB t (lN 1) (lN 1000000000) && inB n (lN 0) (lN 900)) (brB τ (brI x y z t n) t)) = 0) : WF (sI (sI (sI τ 34 (4 * (brI x y z t n) + un τ 33 (brI x y z t n)) t) 35 (4 * (brI x y z t n) + un τ 33 (brI x y z t n)) n) 33 (brI x y z t n) (nI (un τ 33 (brI x y z t n) + 1))) ∧ LK (n9 + 1) (sI (sI (sI τ 34 (4 * (brI x y z t n) + un τ 33 (brI x y z t n)) t) 35 (4 * (brI x y z t n) + un τ 33 (brI x y z t n)) n) 33 (brI x y z t n) (nI (un τ 33 (brI x y z t n) + 1))) := by
  obtain ⟨h1, h2, h3⟩ := cd3_0 h
  have hA : brI x y z t n < 144 := brA_lt (fun e => by
    obtain ⟨e1, e2⟩ := an e
    obtain ⟨e3, e4⟩ := an e1
    obtain ⟨e5, _⟩ := an e2
    exact ⟨e3, e4, (an e5).1⟩)
  obtain ⟨h2, hn⟩ := an h2
  obtain ⟨_, ht⟩ := an h2
  unfold brB at h3
  obtain ⟨h4, _⟩ := an h3
  generalize brI x y z t n = A at hA h4 ⊢
  obtain ⟨a, _, ha, rfl⟩ := inB_N (by decide) (by decide) ht
  obtain ⟨b, _, hb, rfl⟩ := inB_N (by decide) (by decide) hn
  exact ⟨wf_bracket hw hA (of_decide_eq_true h4) ha hb, hk.up.cg rfl rfl rfl rfl rfl rfl⟩

