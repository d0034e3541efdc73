/-! THE INVARIANT: how it begins, and all its cases -/
theorem LK.mono {n m : Nat} {τ : Mu} (h : LK n τ) (hn : n ≤ m) : LK m τ := ⟨h.1, h.2.1, h.2.2.1, fun i hi => ⟨(h.2.2.2 i hi).1, by have := (h.2.2.2 i hi).2; omega⟩⟩
/-- behind i of the three contracts -/
def IN0 (i : Nat) (τ : Mu) : Prop := (WF τ ∧ LK (7 + i) τ ∧ un τ 9 9 = i ∧ i ≤ 3) ∧ (∀ k, k = 8 ∨ 10 ≤ k → τ.1 k = τ0.1 k) ∧ τ.2 = τ0.2 ∧ ∀ c, c < i → un τ 0 c = c ∧ un τ 2 c ≤ 59 ∧ 300 ≤ un τ 3 c ∧ ∃ P, 1000 ≤ P ∧ P ≤ 3999 ∧ (∀ d, un τ 2 c ≤ d → d < 720 → un τ 7 (720 * c + d) = P) ∧ ∀ d, d < 720 → un τ 7 (720 * c + d) ≤ 4999
theorem in0_0 : IN0 0 τ0 := ⟨⟨wf0, lk0.mono (by decide), u0 (by decide), by decide⟩, fun _ _ => rfl, rfl, fun c hc => absurd hc (Nat.not_lt_zero _)⟩
theorem in0_ok {i : Nat} {τ : Mu} (h : IN0 i τ) : WF τ ∧ LK 10 τ := ⟨h.1.1, h.1.2.1.mono (by have := h.1.2.2.2; omega)⟩
theorem in0_step {i : Nat} {τ U : Mu} {a f t w v : Nat} {bb : Bool} {told : Int32} (h : IN0 i τ) (hi : i < 3) (ha : a < 3) (hf : f < 60) (ht : t < 400) (hw : w < 200) (hv : v < 3000) (g : WR τ (cd3 (rng (nI i) 6 && rng (nI a) 3 && rng (nI f) 720 && rng (nI (300 + t)) 720) (decide ((nI f) ≤ (nI (300 + t))) && inB (nI (300 + w)) (lN 60) (lN 600) && inB (nI (1000 + v)) (lN 0) (lN 1000000)) (decide (un τ 9 9 ≠ 10))) (sI (spS (sI (sI (sI (sI (sI (sI (sI τ 0 (un τ 9 9) (nI i)) 1 (un τ 9 9) (nI a)) 2 (un τ 9 9) (nI f)) 3 (un τ 9 9) (nI (300 + t))) 4 (un τ 9 9) (bI bb)) 5 (un τ 9 9) (nI (300 + w))) 6 (720 * un τ 9 9 + (nI f).toNatClampNeg) (nI (1000 + v))) (un τ 9 9) 720) 9 9 (nI (un τ 9 9 + 1))) (nI (un τ 9 9)) [(-2), (-3), (-4)] told U) : told = nI i ∧ IN0 (i + 1) U := by
  obtain ⟨⟨w0, k0, u9, i3⟩, hr, h2, hc⟩ := h
  have z : cd3 (rng (nI i) 6 && rng (nI a) 3 && rng (nI f) 720 && rng (nI (300 + t)) 720) (decide ((nI f) ≤ (nI (300 + t))) && inB (nI (300 + w)) (lN 60) (lN 600) && inB (nI (1000 + v)) (lN 0) (lN 1000000)) (decide (un τ 9 9 ≠ 10)) = 0 := k_3 (an2 (an2 (an2 (rng_ok (by omega) (by omega)) (rng_ok (by omega) (by omega))) (rng_ok (by omega) (by omega))) (rng_ok (by omega) (by omega))) (an2 (an2 (decide_eq_true (by rw [Int32.le_iff_toInt_le, nI_toInt (by omega), nI_toInt (by omega)]; omega)) (inB_ok (by omega) (by omega) (by decide))) (inB_ok (by omega) (by omega) (by decide))) (decide_eq_true (by omega))
  obtain ⟨g1, g2⟩ := g
  obtain ⟨wU, kU⟩ := lk_contract (b := bb) w0 k0 (by omega) z
  rw [if_pos z] at g1 g2
  have hz : U = coT τ (nI i) (nI a) (nI f) (nI (300 + t)) bb (nI (300 + w)) (nI (1000 + v)) := g2
  rw [← g2] at wU kU
  have v9 : un U 9 9 = un τ 9 9 + 1 := by rw [hz]; exact coT_9 (by omega)
  refine ⟨by rw [g1, u9], ⟨wU, by rw [show 7 + (i + 1) = 7 + i + 1 by omega]; exact kU, by rw [v9, u9], by omega⟩, fun k hk => by rw [hz, coT_o (by omega)]; exact hr k hk, by rw [hz]; exact h2, fun c hc1 => ?_⟩
  have n7 : ∀ d, d < 720 → un U 7 (720 * un τ 9 9 + d) = if f ≤ d then 1000 + v else 0 := fun d hd => by
    rw [hz]
    exact coT_pay (by omega) (by omega) (k0.n6 (by omega)) hd
  by_cases q : c = i
  · have e0 : un U 0 (un τ 9 9) = i := by rw [hz]; exact un_of coT_n0 (by omega)
    have e2 : un U 2 (un τ 9 9) = f := by rw [hz]; exact un_of coT_n2 (by omega)
    have e3 : un U 3 (un τ 9 9) = 300 + t := by rw [hz]; exact un_of coT_n3 (by omega)
    rw [q, ← u9, e0, e2, e3]
    refine ⟨u9.symm, by omega, by omega, 1000 + v, by omega, by omega, fun d d1 d2 => ?_, fun d d2 => ?_⟩
    · rw [n7 d d2, if_pos d1]
    · rw [n7 d d2]; split <;> omega
  · have hc2 : c ≠ un τ 9 9 := by omega
    have old : ∀ k, k < 6 → un U k c = un τ k c := fun k hk => by rw [hz]; exact un_cg (coT_old hk hc2)
    have old7 : ∀ d, d < 720 → un U 7 (720 * c + d) = un τ 7 (720 * c + d) := fun d hd => by rw [hz]; exact un_cg (coT_7 (by omega))
    obtain ⟨a1, a2, a3, P, a4, a5, a6, a7⟩ := hc c (by omega)
    rw [old 0 (by decide), old 2 (by decide), old 3 (by decide)]
    exact ⟨a1, a2, a3, P, a4, a5, fun d d1 d2 => by rw [old7 d d2]; exact a6 d d1 d2, fun d d2 => by rw [old7 d d2]; exact a7 d d2⟩
theorem inv_0 {τ : Mu} (h : IN0 3 τ) : INV 0 τ 3 0 0 := by
  obtain ⟨⟨hw, hk, u9, _⟩, hr, h2, hc⟩ := h
  have z1 : ∀ k i, k = 8 ∨ 10 ≤ k → k ≠ 31 → k ≠ 36 → k ≠ 37 → τ.1 k i = 0 := fun k i hk a b c => by
    rw [hr k hk]
    exact if_neg (by omega)
  have zu : ∀ k i, k = 8 ∨ 10 ≤ k → k ≠ 31 → k ≠ 36 → k ≠ 37 → un τ k i = 0 := fun k i hk a b c => by
    unfold un
    rw [z1 k i hk a b c]
    rfl
  have z2 : ∀ k i, τ.2 k i = 0 := fun k i => by rw [h2]; rfl
  have m1 : ∀ k i, k = 31 ∧ i < 72 ∨ k = 37 ∧ i < 144 → τ.1 k i = -1 := fun k i hk => by
    rw [hr k (by omega)]
    exact if_pos (by omega)
  have u26 := zu 26 26 (by decide) (by decide) (by decide) (by decide)
  have u44 := zu 44 44 (by decide) (by decide) (by decide) (by decide)
  have u46 := zu 46 46 (by decide) (by decide) (by decide) (by decide)
  have u51 := zu 51 51 (by decide) (by decide) (by decide) (by decide)
  have u13 := zu 13 13 (by decide) (by decide) (by decide) (by decide)
  have u17 := zu 17 17 (by decide) (by decide) (by decide) (by decide)
  have hm : MO τ := fun e j _ hj _ => by
    rw [zu 24 e (by decide) (by decide) (by decide) (by decide)] at hj
    exact absurd hj (Nat.not_lt_zero _)
  have bu : BUD τ = 0 := by
    unfold BUD
    rw [u26, u46, u13, u17, u9, zu 24 6 (by decide) (by decide) (by decide) (by decide)]
    rfl
  have l0 : (0 : Int64).toInt = 0 := rfl
  have pz : PZ τ := ⟨fun i _ => z1 30 i (by decide) (by decide) (by decide) (by decide), fun i hi => m1 31 i (.inl ⟨rfl, hi⟩), fun i _ => zu 33 i (by decide) (by decide) (by decide) (by decide), fun i hi => m1 37 i (.inr ⟨rfl, hi⟩), u44, fun i _ => z2 45 i, u13, u17, u9⟩
  refine ⟨⟨hw, hk.mono (by decide), by decide⟩, ⟨u9.symm, u26.symm, u44.symm⟩, ⟨by omega, by omega⟩, fun g hg => by omega, ⟨by omega, fun c h3 => (hc c h3).1, fun c h3 h9 => by omega⟩, fun c h3 => ?_, fun c d h3 hd => ?_, hm, fun c d _ _ hne => absurd (zu 8 _ (by decide) (by decide) (by decide) (by decide)) hne, fun i _ => ?_, fun i _ => ?_, fun _ k hk1 => by omega, by omega, fun _ _ _ _ _ => ⟨pz, fun k hk1 => by omega, τ, hw, hm, ⟨fun _ _ => rfl, rfl⟩, ⟨Nat.le_refl _, fun _ _ => ⟨rfl, rfl, fun _ _ => ⟨rfl, rfl⟩⟩⟩, fun p hp => ?_⟩⟩
  · obtain ⟨_, a2, a3, P, a4, a5, a6, _⟩ := hc c h3
    exact ⟨a2, a3, P, a4, a5, a6⟩
  · obtain ⟨_, _, _, P, _, _, _, a7⟩ := hc c (by omega)
    exact a7 d hd
  · rw [z1 30 i (by decide) (by decide) (by decide) (by decide)]
    decide
  · rw [z2 45 i, l0]
    exact ⟨by decide, by decide⟩
  · rw [u46, u51]
    exact ⟨Int.le_refl _, fun _ => Int.le_refl _⟩
theorem inv_step {e : Nat} {τ U : Mu} {n0 n1 n2 m0 m1 m2 : Nat} {told : Int32} (h : INV e τ n0 n1 n2) (he : e < 24) (g : AR τ n0 n1 n2 told U m0 m1 m2) : INV (e + 1) U m0 m1 m2 ∧ (told < -1 ∧ (-9) < told → ∀ k, k < 24 → tlV U k = tlV τ k) := by
  rcases g with g | g | g | g | g | g | g | g | g | g | g | g | g | g | g
  · exact stp_none h he g
  · exact stp_contract h he g
  · exact stp_shift h he g
  · exact stp_leave h he g
  · exact stp_word h he g
  · exact stp_element h he g
  · exact stp_bracket h he g
  · exact stp_garnish h he g
  · exact stp_advance h he g
  · exact stp_back h he g
  · exact stp_close h he g
  · exact stp_bonus h he g
  · exact stp_leaveRule h he g
  · exact stp_tables h he g
  · exact stp_zero h he g
