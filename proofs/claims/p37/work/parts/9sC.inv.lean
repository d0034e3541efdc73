/-! THE INVARIANT of the law's steps -/
/-- what was done, counted by what it left -/
def BUD (τ : Mu) : Nat := un τ 46 46 + un τ 26 26 + sumN (fun e => un τ 24 e) 0 (un τ 26 26) + un τ 24 6 + un τ 13 13 + un τ 17 17 + (un τ 9 9 - 3)
/-- nothing but words, elements and closings: how it stood at the last closing -/
def PURE (τ : Mu) : Prop := PZ τ ∧ (∀ k, k < un τ 51 51 → un τ 50 k = 0) ∧ ∃ σ, WF σ ∧ MO σ ∧ AG σ τ ∧ FRM σ τ ∧ ∀ p, p < 3 → sumZ (fun m => (pyL σ p m).toInt) (un τ 46 46) ≤ paidI τ p (un τ 51 51) ∧ ((∀ e, e < un σ 26 26 → un σ 24 e = 1) → paidI τ p (un τ 51 51) ≤ 28000 * un τ 46 46)
def AV (e : Nat) (τ : Mu) : Prop := ∀ i, i < 144 → 0 ≤ (τ.2 45 i).toInt ∧ (τ.2 45 i).toInt ≤ 9000 * (e : Int)
def INV (e : Nat) (τ : Mu) (n0 n1 n2 : Nat) : Prop := (WF τ ∧ LK (e + 10) τ ∧ e ≤ 24) ∧ (n0 = un τ 9 9 ∧ n1 = un τ 26 26 ∧ n2 = un τ 44 44) ∧ (un τ 9 9 ≤ 6 ∧ un τ 44 44 ≤ 5) ∧ (∀ g, g < un τ 44 44 → un τ 38 g < 3) ∧ OWN τ ∧ PK τ ∧ PYS τ ∧ MO τ ∧ SHF τ ∧ BNS τ ∧ AV e τ ∧ (e ≤ 23 → GP τ) ∧ BUD τ ≤ e ∧ (e ≤ 23 → BUD τ = e → un τ 13 13 = 0 → un τ 17 17 = 0 → un τ 9 9 = 3 → PURE τ)
theorem inv_ok {e : Nat} {τ : Mu} {n0 n1 n2 : Nat} (h : INV e τ n0 n1 n2) : WF τ ∧ LK (e + 10) τ ∧ AskOK τ ∧ n2 = un τ 44 44 ∧ 3 ≤ n0 ∧ (n0 < 100 ∧ n1 < 100 ∧ n2 < 100) := by
  obtain ⟨⟨hw, hk, he⟩, ⟨h0, h1, h2⟩, ⟨h6, h5⟩, hg, ho, _, _, _, _, _, _, _, hb, _⟩ := h
  have o3 := ho.1
  have e6 := hw.ne.2
  exact ⟨hw, hk, ask_ok hw (hk.ad (by omega)) hg, h2, by omega, by omega, by omega, by omega⟩
theorem AV.up {e : Nat} {τ : Mu} (h : AV e τ) : AV (e + 1) τ := fun i hi => by have := h i hi; push_cast; omega
theorem un_g {σ τ : Mu} {k i : Nat} (h : σ.1 k = τ.1 k) : un σ k i = un τ k i := un_cg (congrFun h i)
theorem bud_cg {σ τ : Mu} (h9 : σ.1 9 = τ.1 9) (h13 : σ.1 13 = τ.1 13) (h17 : σ.1 17 = τ.1 17) (h24 : σ.1 24 = τ.1 24) (h26 : σ.1 26 = τ.1 26) (h46 : σ.1 46 = τ.1 46) : BUD σ = BUD τ := by
  unfold BUD un
  rw [h9, h13, h17, h24, h26, h46]
/-- a step that leaves what is counted -/
theorem INV.cg {e : Nat} {τ U : Mu} {n0 n1 n2 : Nat} (h : INV e τ n0 n1 n2) (he : e < 24) (hwU : WF U) (hkU : LK (e + 10 + 1) U) (hf : ∀ k, k = 0 ∨ k = 2 ∨ k = 3 ∨ k = 4 ∨ k = 7 ∨ k = 8 ∨ k = 9 ∨ k = 11 ∨ k = 13 ∨ k = 17 ∨ k = 22 ∨ k = 23 ∨ k = 24 ∨ k = 26 ∨ k = 46 ∨ k = 47 ∨ k = 51 → U.1 k = τ.1 k) (h49 : U.2 49 = τ.2 49)
    (h44 : un U 44 44 ≤ 5) (h38 : ∀ g, g < un U 44 44 → un U 38 g < 3) (hB : BNS U) (hA : AV (e + 1) U) : INV (e + 1) U n0 n1 (un U 44 44) := by
  obtain ⟨⟨hw, hk, _⟩, ⟨g0, g1, g2⟩, ⟨h6, h5⟩, hg, ho, hpk, hpy, hm, hs, hb, ha, hgp, hbu, hp⟩ := h
  have u : ∀ k i, (k = 0 ∨ k = 2 ∨ k = 3 ∨ k = 4 ∨ k = 7 ∨ k = 8 ∨ k = 9 ∨ k = 11 ∨ k = 13 ∨ k = 17 ∨ k = 22 ∨ k = 23 ∨ k = 24 ∨ k = 26 ∨ k = 46 ∨ k = 47 ∨ k = 51) → un U k i = un τ k i := fun k i hk => un_g (hf k hk)
  have u9 := u 9 9 (by decide)
  have bu : BUD U = BUD τ := bud_cg (hf 9 (by decide)) (hf 13 (by decide)) (hf 17 (by decide)) (hf 24 (by decide)) (hf 26 (by decide)) (hf 46 (by decide))
  refine ⟨⟨hwU, by rw [show e + 1 + 10 = e + 10 + 1 by omega]; exact hkU, by omega⟩, ⟨by rw [u9]; exact g0, by rw [u 26 26 (by decide)]; exact g1, rfl⟩, ⟨by rw [u9]; exact h6, h44⟩, h38, ?_, ?_, ?_, ?_, ?_, hB, hA, fun h23 => ?_, by rw [bu]; omega, fun _ q => by rw [bu] at q; omega⟩
  · refine ⟨by rw [u9]; exact ho.1, fun c hc => by rw [u 0 c (by decide)]; exact ho.2.1 c hc, fun c h3 h9 h0 => ?_⟩
    rw [u9] at h9
    rw [u 0 c (by decide)] at h0
    rw [u 4 c (by decide)]
    exact ho.2.2 c h3 h9 h0
  · intro c hc
    obtain ⟨a1, a2, P, a3, a4, a5⟩ := hpk c hc
    refine ⟨by rw [u 2 c (by decide)]; exact a1, by rw [u 3 c (by decide)]; exact a2, P, a3, a4, fun d d1 d2 => ?_⟩
    rw [u 2 c (by decide)] at d1
    rw [u 7 _ (by decide)]
    exact a5 d d1 d2
  · intro c d hc hd
    rw [u9] at hc
    rw [u 7 _ (by decide)]
    exact hpy c d hc hd
  · intro e1 j he1 hj h3
    rw [u 24 _ (by decide)] at hj
    rw [u 22 _ (by decide)] at h3
    rw [hf 23 (by decide)]
    exact hm e1 j he1 hj h3
  · intro c d hc hd hne
    rw [u9] at hc
    rw [u 8 _ (by decide)] at hne
    obtain ⟨i, hi, q⟩ := hs c d hc hd hne
    exact ⟨i, by rw [u 13 13 (by decide)]; exact hi, by rw [u 11 i (by decide)]; exact q⟩
  · have gp := hgp (by omega)
    intro k hk1
    rw [u 51 51 (by decide)] at hk1
    rw [u 47 k (by decide), h49]
    exact gp k hk1
theorem INV.up {e : Nat} {τ : Mu} {n0 n1 n2 : Nat} (h : INV e τ n0 n1 n2) (he : e < 24) : INV (e + 1) τ n0 n1 n2 := by
  have h' := h
  obtain ⟨⟨hw, hk, _⟩, ⟨g0, g1, g2⟩, ⟨h6, h5⟩, hg, ho, hpk, hpy, hm, hs, hb, ha, hgp, hbu, hp⟩ := h
  have := INV.cg h' he hw hk.up (fun _ _ => rfl) rfl h5 hg hb ha.up
  rw [← g2] at this
  exact this
/-- a throw leaves all as it was -/
theorem thr3 {τ U1 U : Mu} {a b c : Bool} {R told : Int32} (h : WR τ (cd3 a b c) U1 R [-2, -3, -4] told U) : (cd3 a b c = 0 ∧ told = R ∧ U = U1) ∨ ((told = -2 ∨ told = -3 ∨ told = -4) ∧ U = τ) := by
  obtain ⟨h1, h2⟩ := h
  rcases cd3_c a b c with z | z | z | z <;> rw [z] at h1 h2 ⊢
  · exact .inl ⟨rfl, h1, h2⟩
  · exact .inr ⟨.inl h1, h2⟩
  · exact .inr ⟨.inr (.inl h1), h2⟩
  · exact .inr ⟨.inr (.inr h1), h2⟩
theorem thr2 {τ U1 U : Mu} {a b : Bool} {R told x y : Int32} (h : WR τ (cd2 a b) U1 R [x, y] told U) (hx : x = -2 ∨ x = -3 ∨ x = -4) (hy : y = -2 ∨ y = -3 ∨ y = -4) : (cd2 a b = 0 ∧ told = R ∧ U = U1) ∨ ((told = -2 ∨ told = -3 ∨ told = -4) ∧ U = τ) := by
  obtain ⟨h1, h2⟩ := h
  rcases cd2_c a b with z | z | z <;> rw [z] at h1 h2 ⊢
  · exact .inl ⟨rfl, h1, h2⟩
  · exact .inr ⟨by rw [h1]; exact hx, h2⟩
  · exact .inr ⟨by rw [h1]; exact hy, h2⟩
theorem thrl3 {τ U1 U : Mu} {a b c : Bool} {R : Int64} {told : Int32} (h : WRl τ (cd3 a b c) U1 R [-2, -3, -4] told U) : (cd3 a b c = 0 ∧ told = R.toInt32 ∧ U = U1) ∨ ((told = -2 ∨ told = -3 ∨ told = -4) ∧ U = τ) := by
  obtain ⟨h1, h2⟩ := h
  rcases cd3_c a b c with z | z | z | z <;> rw [z] at h1 h2 ⊢
  · exact .inl ⟨rfl, h1, h2⟩
  · exact .inr ⟨.inl h1, h2⟩
  · exact .inr ⟨.inr (.inl h1), h2⟩
  · exact .inr ⟨.inr (.inr h1), h2⟩
theorem thrl2 {τ U1 U : Mu} {a b : Bool} {R : Int64} {told : Int32} (h : WRl τ (cd2 a b) U1 R [-2, -4] told U) : (cd2 a b = 0 ∧ told = R.toInt32 ∧ U = U1) ∨ ((told = -2 ∨ told = -3 ∨ told = -4) ∧ U = τ) := by
  obtain ⟨h1, h2⟩ := h
  rcases cd2_c a b with z | z | z <;> rw [z] at h1 h2 ⊢
  · exact .inl ⟨rfl, h1, h2⟩
  · exact .inr ⟨.inl h1, h2⟩
  · exact .inr ⟨.inr (.inr h1), h2⟩
theorem neg3 {told : Int32} (h : told = -2 ∨ told = -3 ∨ told = -4) : told < 0 := by rcases h with rfl | rfl | rfl <;> decide
/-- an answer that is a number -/
theorem nin {n : Nat} (h : n < 2 ^ 31) : ¬ (nI n < -1 ∧ (-9) < nI n) := by
  rw [Int32.lt_iff_toInt_lt, nI_toInt h, show ((-1 : Int32)).toInt = -1 from rfl]
  omega
theorem nno {n : Nat} (h : n < 2 ^ 31) : ¬ nI n < 0 := by
  rw [Int32.lt_iff_toInt_lt, nI_toInt h, show ((0 : Int32)).toInt = 0 from rfl]
  omega
/-- what a step does: the invariant goes on; a throw tells nothing else -/
def STEP (e : Nat) (τ : Mu) (told : Int32) (U : Mu) (m0 m1 m2 : Nat) : Prop := INV (e + 1) U m0 m1 m2 ∧ (told < -1 ∧ (-9) < told → ∀ k, k < 24 → tlV U k = tlV τ k)
theorem STEP.thr {e : Nat} {τ : Mu} {n0 n1 n2 : Nat} {told : Int32} (h : INV e τ n0 n1 n2) (he : e < 24) : STEP e τ told τ n0 n1 n2 := ⟨h.up he, fun _ _ _ => rfl⟩
section Steps
variable {e : Nat} {τ U : Mu} {n0 n1 n2 m0 m1 m2 : Nat} {told : Int32}
theorem stp_none (h : INV e τ n0 n1 n2) (he : e < 24) (g : AR_none τ n0 n1 n2 told U m0 m1 m2) : STEP e τ told U m0 m1 m2 := by
  obtain ⟨_, rfl, rfl, rfl, rfl⟩ := g
  exact STEP.thr h he
theorem stp_zero (h : INV e τ n0 n1 n2) (he : e < 24) (g : AR_zero τ n0 n1 n2 told U m0 m1 m2) : STEP e τ told U m0 m1 m2 := by
  obtain ⟨_, rfl, rfl, rfl, rfl⟩ := g
  exact STEP.thr h he
theorem z_in : ¬ ((0 : Int32) < -1 ∧ (-9) < (0 : Int32)) := by decide
theorem stp_leaveRule (h : INV e τ n0 n1 n2) (he : e < 24) (g : AR_leaveRule τ n0 n1 n2 told U m0 m1 m2) : STEP e τ told U m0 m1 m2 := by
  obtain ⟨a, b, c, ha, hb, hc, rfl, rfl, rfl, rfl, rfl⟩ := g
  have h' := h
  obtain ⟨⟨hw, hk, _⟩, ⟨g0, g1, g2⟩, ⟨h6, h5⟩, hg, ho, hpk, hpy, hm, hs, hB, hA, hgp, hbu, hp⟩ := h
  obtain ⟨w, k⟩ := lk_leaveRule (x := nI a) (y := nI b) (z := nI (1 + c)) hw hk (by omega) (k_1 (an2 (an2 (inB_ok (by omega) (by omega) (by decide)) (inB_ok (by omega) (by omega) (by decide))) (inB_ok (by omega) (by omega) (by decide))))
  refine ⟨?_, fun q => absurd q z_in⟩
  have := INV.cg h' he w k (fun k hk => by rw [sI_r (by omega), sI_r (by omega), sI_r (by omega)]) rfl (by rw [un_g (τ := τ) (by rw [sI_r (by decide), sI_r (by decide), sI_r (by decide)])]; exact h5) (fun g hg1 => by rw [un_g (τ := τ) (by rw [sI_r (by decide), sI_r (by decide), sI_r (by decide)])] at hg1 ⊢; exact hg g hg1) (fun i hi => by rw [sI_r (by decide), sI_r (by decide), sI_r (by decide)]; exact hB i hi) hA.up
  rw [un_g (τ := τ) (k := 44) (by rw [sI_r (by decide), sI_r (by decide), sI_r (by decide)]), ← g2] at this
  exact this
theorem stp_bonus (h : INV e τ n0 n1 n2) (he : e < 24) (g : AR_bonus τ n0 n1 n2 told U m0 m1 m2) : STEP e τ told U m0 m1 m2 := by
  obtain ⟨p, mm, r, t, hp3, hmm, hr, ht, rfl, rfl, rfl, rfl, rfl⟩ := g
  have h' := h
  obtain ⟨⟨hw, hk, _⟩, ⟨g0, g1, g2⟩, ⟨h6, h5⟩, hg, ho, hpk, hpy, hm, hs, hB, hA, hgp, hbu, hp⟩ := h
  obtain ⟨w, k⟩ := lk_bonus (x := nI p) (y := nI mm) (z := nI r) (t := nI t - nI 20000) hw hk (by omega) (k_2 (an2 (an2 (rng_ok (by omega) (by omega)) (rng_ok (by omega) (by omega))) (rng_ok (by omega) (by omega))) (bon_in (by omega)))
  refine ⟨?_, fun q => absurd q z_in⟩
  have := INV.cg h' he w k (fun k hk => by rw [sI_r (by omega)]) rfl (by rw [un_g (τ := τ) (by rw [sI_r (by decide)])]; exact h5) (fun g hg1 => by rw [un_g (τ := τ) (by rw [sI_r (by decide)])] at hg1 ⊢; exact hg g hg1) (fun i hi => by
      by_cases z : i = 72 * (nI p).toNatClampNeg + 3 * (nI mm).toNatClampNeg + (nI r).toNatClampNeg
      · rw [z, sI_s, Int32.toInt_sub, nI_toInt (by omega), nI_toInt (by decide), Int.bmod_eq_of_le (by omega) (by omega)]
        omega
      · rw [sI_k z]; exact hB i hi) hA.up
  rw [un_g (τ := τ) (k := 44) (by rw [sI_r (by decide)]), ← g2] at this
  exact this
theorem stp_tables (h : INV e τ n0 n1 n2) (he : e < 24) (g : AR_tables τ n0 n1 n2 told U m0 m1 m2) : STEP e τ told U m0 m1 m2 := by
  obtain ⟨p, mm, a, b, c, d, hp3, hmm, ha, hb, hc, hd, rfl, rfl, rfl, rfl, rfl⟩ := g
  by_cases z : mm < 24
  · rw [if_pos z]
    have h' := h
    obtain ⟨⟨hw, hk, _⟩, ⟨g0, g1, g2⟩, ⟨h6, h5⟩, hg, ho, hpk, hpy, hm, hs, hB, hA, hgp, hbu, hp⟩ := h
    obtain ⟨w1, k1⟩ := lk_contribution (x := nI p) (y := nI mm) (z := nI a) (t := nI b) hw hk (by omega) (k_2 (an2 (rng_ok (by omega) (by omega)) (rng_ok (by omega) (by omega))) (an2 (inB_ok (by omega) (by omega) (by decide)) (inB_ok (by omega) (by omega) (by decide))))
    obtain ⟨w2, k2⟩ := lk_pension (x := nI p) (y := nI mm) (z := nI c) w1 k1 (by omega) (k_2 (an2 (rng_ok (by omega) (by omega)) (rng_ok (by omega) (by omega))) (inB_ok (by omega) (by omega) (by decide)))
    obtain ⟨w3, k3⟩ := lk_state (x := nI p) (y := nI mm) (z := nI d) w2 k2 (by omega) (k_2 (an2 (rng_ok (by omega) (by omega)) (rng_ok (by omega) (by omega))) (inB_ok (by omega) (by omega) (by decide)))
    have kk : LK (e + 10 + 1) (sI (sI (sI (sI τ 31 (24 * (nI p).toNatClampNeg + (nI mm).toNatClampNeg) (nI a)) 32 (24 * (nI p).toNatClampNeg + (nI mm).toNatClampNeg) (nI b)) 37 (24 * (nI p).toNatClampNeg + (nI mm).toNatClampNeg) (nI c)) 36 (24 * (nI p).toNatClampNeg + (nI mm).toNatClampNeg) (nI d)) := LK.cg hk.up (by rw [sI_r (by decide), sI_r (by decide), sI_r (by decide), sI_r (by decide)]) (by rw [sI_r (by decide), sI_r (by decide), sI_r (by decide), sI_r (by decide)]) (by rw [sI_r (by decide), sI_r (by decide), sI_r (by decide), sI_r (by decide)]) (by rw [sI_r (by decide), sI_r (by decide), sI_r (by decide), sI_r (by decide)]) (by rw [sI_r (by decide), sI_r (by decide), sI_r (by decide), sI_r (by decide)]) rfl
    refine ⟨?_, fun q => absurd q z_in⟩
    have := INV.cg h' he w3 kk (fun k hk => by rw [sI_r (by omega), sI_r (by omega), sI_r (by omega), sI_r (by omega)]) rfl (by rw [un_g (τ := τ) (by rw [sI_r (by decide), sI_r (by decide), sI_r (by decide), sI_r (by decide)])]; exact h5) (fun g hg1 => by rw [un_g (τ := τ) (by rw [sI_r (by decide), sI_r (by decide), sI_r (by decide), sI_r (by decide)])] at hg1 ⊢; exact hg g hg1) (fun i hi => by rw [sI_r (by decide), sI_r (by decide), sI_r (by decide), sI_r (by decide)]; exact hB i hi) hA.up
    rw [un_g (τ := τ) (k := 44) (by rw [sI_r (by decide), sI_r (by decide), sI_r (by decide), sI_r (by decide)]), ← g2] at this
    exact this
  · rw [if_neg z]; exact STEP.thr h he
theorem stp_bracket (h : INV e τ n0 n1 n2) (he : e < 24) (g : AR_bracket τ n0 n1 n2 told U m0 m1 m2) : STEP e τ told U m0 m1 m2 := by
  obtain ⟨a, b, c, d, t, ha, hb, hc, hd, ht, hr, rfl, rfl, rfl⟩ := g
  rcases thr3 hr with ⟨z, rfl, rfl⟩ | ⟨_, rfl⟩
  · have h' := h
    obtain ⟨⟨hw, hk, _⟩, ⟨g0, g1, g2⟩, ⟨h6, h5⟩, hg, ho, hpk, hpy, hm, hs, hB, hA, hgp, hbu, hp⟩ := h
    obtain ⟨w, k⟩ := lk_bracket hw hk (by omega) z
    refine ⟨?_, fun q => absurd q (nin ?_)⟩
    · have := INV.cg h' he w k (fun k hk => by rw [sI_r (by omega), sI_r (by omega), sI_r (by omega)]) rfl (by rw [un_g (τ := τ) (by rw [sI_r (by decide), sI_r (by decide), sI_r (by decide)])]; exact h5) (fun g hg1 => by rw [un_g (τ := τ) (by rw [sI_r (by decide), sI_r (by decide), sI_r (by decide)])] at hg1 ⊢; exact hg g hg1) (fun i hi => by rw [sI_r (by decide), sI_r (by decide), sI_r (by decide)]; exact hB i hi) hA.up
      rw [un_g (τ := τ) (k := 44) (by rw [sI_r (by decide), sI_r (by decide), sI_r (by decide)]), ← g2] at this
      exact this
    · by_cases q : brI (nI a) (nI b) (nI c) (nI d) (nI t) < 144
      · have := (hw.bn _ q).2; omega
      · exact absurd (brA_lt (fun q2 => by
          have q3 := (Bool.and_eq_true_iff.mp q2)
          have q4 := Bool.and_eq_true_iff.mp q3.1
          have q5 := Bool.and_eq_true_iff.mp (Bool.and_eq_true_iff.mp q3.2).1
          exact ⟨q4.1, q4.2, q5.1⟩)) q
  · exact STEP.thr h he
end Steps
