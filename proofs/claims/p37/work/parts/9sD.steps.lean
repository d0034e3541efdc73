/-! THE INVARIANT: garnishments, advances, payments that come back; contracts, shifts, leave -/
theorem rng_lt {p n : Nat} (hp : p < 2 ^ 31) (h : rng (nI p) n = true) : p < n := by
  unfold rng at h
  have := of_decide_eq_true h
  rw [nI_toInt hp] at this
  omega
theorem OWN.cg {σ τ : Mu} (h : OWN τ) (h9 : σ.1 9 = τ.1 9) (h0 : σ.1 0 = τ.1 0) (h4 : σ.1 4 = τ.1 4) : OWN σ := by
  unfold OWN un
  rw [h9, h0, h4]
  exact h
theorem PK.cg {σ τ : Mu} (h : PK τ) (h2 : σ.1 2 = τ.1 2) (h3 : σ.1 3 = τ.1 3) (h7 : σ.1 7 = τ.1 7) : PK σ := by
  unfold PK un
  rw [h2, h3, h7]
  exact h
theorem PYS.cg {σ τ : Mu} (h : PYS τ) (h9 : σ.1 9 = τ.1 9) (h7 : σ.1 7 = τ.1 7) : PYS σ := by
  unfold PYS un
  rw [h9, h7]
  exact h
theorem MO.cg {σ τ : Mu} (h : MO τ) (h2 : σ.1 22 = τ.1 22) (h3 : σ.1 23 = τ.1 23) (h4 : σ.1 24 = τ.1 24) : MO σ := by
  unfold MO un
  rw [h2, h3, h4]
  exact h
theorem SHF.cg {σ τ : Mu} (h : SHF τ) (h8 : σ.1 8 = τ.1 8) (h9 : σ.1 9 = τ.1 9) (h11 : σ.1 11 = τ.1 11) (h13 : σ.1 13 = τ.1 13) : SHF σ := by
  unfold SHF un
  rw [h8, h9, h11, h13]
  exact h
theorem GP.cg {σ τ : Mu} (h : GP τ) (h1 : σ.1 47 = τ.1 47) (h2 : σ.1 51 = τ.1 51) (h3 : σ.2 49 = τ.2 49) : GP σ := by
  unfold GP un
  rw [h1, h2, h3]
  exact h
theorem BNS.cg {σ τ : Mu} (h : BNS τ) (h1 : σ.1 30 = τ.1 30) : BNS σ := by
  unfold BNS
  rw [h1]
  exact h
theorem sL_r {τ : Mu} {j i k : Nat} {v : Int64} (h : k ≠ j) : (sL τ j i v).2 k = τ.2 k := by
  show up2 τ.2 j i v k = τ.2 k
  exact up2_row _ _ h
/-- a step that is counted -/
theorem INV.st {e : Nat} {τ U : Mu} {n0 n1 n2 : Nat} (h : INV e τ n0 n1 n2) (he : e < 24) (wU : WF U) (kU : LK (e + 10 + 1) U) (h9 : un U 9 9 ≤ 6) (ho : OWN U) (hpk : PK U) (hpy : PYS U) (hm : MO U) (hs : SHF U) (h30 : U.1 30 = τ.1 30) (h38 : U.1 38 = τ.1 38) (h44 : U.1 44 = τ.1 44) (h47 : U.1 47 = τ.1 47) (h51 : U.1 51 = τ.1 51) (h2 : U.2 = τ.2) (hb : BUD U ≤ e + 1) (hp : e + 1 ≤ 23 → BUD U = e + 1 → un U 13 13 = 0 → un U 17 17 = 0 → un U 9 9 = 3 → PURE U) : INV (e + 1) U (un U 9 9) (un U 26 26) n2 := by
  obtain ⟨⟨hw, hk, _⟩, ⟨g0, g1, g2⟩, ⟨h6, h5⟩, hg, _, _, _, _, _, hB, hA, hgp, _, _⟩ := h
  have u44 : un U 44 44 = un τ 44 44 := un_g h44
  refine ⟨⟨wU, by rw [show e + 1 + 10 = e + 10 + 1 by omega]; exact kU, by omega⟩, ⟨rfl, rfl, by rw [u44]; exact g2⟩, ⟨h9, by rw [u44]; exact h5⟩, fun g hg1 => ?_, ho, hpk, hpy, hm, hs, hB.cg h30, fun i hi => ?_, fun h23 => (hgp (by omega)).cg h47 h51 (by rw [h2]), hb, hp⟩
  · rw [u44] at hg1
    rw [un_g h38]
    exact hg g hg1
  · rw [h2]; exact hA.up i hi
section Steps
variable {e : Nat} {τ U : Mu} {n0 n1 n2 m0 m1 m2 : Nat} {told : Int32}
theorem stp_garnish (h : INV e τ n0 n1 n2) (he : e < 24) (g : AR_garnish τ n0 n1 n2 told U m0 m1 m2) : STEP e τ told U m0 m1 m2 := by
  obtain ⟨p, mm, r, t, w, v, hp3, hmm, hr, ht, hw1, hv, h25, hwr, rfl, rfl, rfl⟩ := g
  rcases thr3 hwr with ⟨z, rfl, rfl⟩ | ⟨q, rfl⟩
  · have h' := h
    obtain ⟨⟨hw, hk, _⟩, ⟨g0, g1, g2⟩, ⟨h6, h5⟩, hg, ho, hpk, hpy, hm, hs, hB, hA, hgp, hbu, hp⟩ := h
    obtain ⟨wU, kU⟩ := lk_garnish hw hk (by omega) z
    rw [if_neg (nno (by omega))]
    refine ⟨?_, fun q => absurd q (nin (by omega))⟩
    have u44 : un (sI (sI (sI (sI (sI (sI (sI τ 38 (un τ 44 44) (nI p)) 39 (un τ 44 44) (nI mm)) 40 (un τ 44 44) (nI r)) 41 (un τ 44 44) (nI t)) 42 (un τ 44 44) (nI w)) 43 (un τ 44 44) (nI v)) 44 44 (nI (un τ 44 44 + 1))) 44 44 = un τ 44 44 + 1 := un_of sI_s (by omega)
    have := INV.cg h' he wU kU (fun k hk => by rw [sI_r (by omega), sI_r (by omega), sI_r (by omega), sI_r (by omega), sI_r (by omega), sI_r (by omega), sI_r (by omega)]) rfl (by rw [u44]; omega) (fun g hg1 => by
      rw [u44] at hg1
      rw [un_g (τ := sI τ 38 (un τ 44 44) (nI p)) (by rw [sI_r (by decide), sI_r (by decide), sI_r (by decide), sI_r (by decide), sI_r (by decide), sI_r (by decide)])]
      by_cases q : g = un τ 44 44
      · rw [q, un_of sI_s (by omega)]; exact hp3
      · rw [un_cg (sI_k q)]; exact hg g (by omega)) (hB.cg (by rw [sI_r (by decide), sI_r (by decide), sI_r (by decide), sI_r (by decide), sI_r (by decide), sI_r (by decide), sI_r (by decide)])) hA.up
    rw [u44] at this
    rw [g2]
    exact this
  · rw [if_pos (neg3 q)]
    exact STEP.thr h he
theorem stp_advance (h : INV e τ n0 n1 n2) (he : e < 24) (g : AR_advance τ n0 n1 n2 told U m0 m1 m2) : STEP e τ told U m0 m1 m2 := by
  obtain ⟨p, v, hp7, hv, hwr, rfl, rfl, rfl⟩ := g
  rcases thrl3 hwr with ⟨z, rfl, rfl⟩ | ⟨q, rfl⟩
  · have h' := h
    obtain ⟨⟨hw, hk, _⟩, ⟨g0, g1, g2⟩, ⟨h6, h5⟩, hg, ho, hpk, hpy, hm, hs, hB, hA, hgp, hbu, hp⟩ := h
    obtain ⟨wU, kU⟩ := lk_advance hw hk (by omega) z
    obtain ⟨z1, z2, z3⟩ := cd3_0 z
    have hp6 := rng_lt (by omega) z1
    have ho24 : un τ 46 46 ≠ 24 := of_decide_eq_true z3
    have h46 := hw.op.2
    have ec : (nI p).toNatClampNeg = p := nI_clamp (by omega)
    have ev : (nI v).toInt64.toInt = v := by rw [Int32.toInt_toInt64, nI_toInt (by omega)]
    have a0 := hA (24 * p + un τ 46 46) (by omega)
    have es : (τ.2 45 (24 * p + un τ 46 46) + (nI v).toInt64).toInt = (τ.2 45 (24 * p + un τ 46 46)).toInt + v := by
      rw [bd_addI (A := 300000) (B := 9000) ⟨by omega, by omega⟩ ⟨by rw [ev]; omega, by rw [ev]; omega⟩ (by decide), ev]
    have av : AV (e + 1) (sL τ 45 (24 * (nI p).toNatClampNeg + un τ 46 46) (τ.2 45 (24 * (nI p).toNatClampNeg + un τ 46 46) + (nI v).toInt64)) := fun i hi => by
      rw [ec]
      by_cases q : i = 24 * p + un τ 46 46
      · rw [q, show (sL τ 45 (24 * p + un τ 46 46) (τ.2 45 (24 * p + un τ 46 46) + (nI v).toInt64)).2 45 (24 * p + un τ 46 46) = τ.2 45 (24 * p + un τ 46 46) + (nI v).toInt64 from sL_s, es]
        push_cast
        omega
      · rw [show (sL τ 45 (24 * p + un τ 46 46) (τ.2 45 (24 * p + un τ 46 46) + (nI v).toInt64)).2 45 i = τ.2 45 i from sL_k q]
        exact hA.up i hi
    refine ⟨?_, fun q => ?_⟩
    · have := INV.cg h' he wU kU (fun k hk => rfl) (sL_r (by decide)) h5 hg hB av
      rw [show un (sL τ 45 (24 * (nI p).toNatClampNeg + un τ 46 46) (τ.2 45 (24 * (nI p).toNatClampNeg + un τ 46 46) + (nI v).toInt64)) 44 44 = un τ 44 44 from rfl, ← g2] at this
      exact this
    · exfalso
      generalize hU : sL τ 45 (24 * (nI p).toNatClampNeg + un τ 46 46) (τ.2 45 (24 * (nI p).toNatClampNeg + un τ 46 46) + (nI v).toInt64) = U at *
      have sb : ∀ m, m < 24 → bdL (U.2 45 (24 * (nI p).toNatClampNeg + m)) 300000 := fun m hm1 => by
        have := av (24 * (nI p).toNatClampNeg + m) (by rw [ec]; omega)
        push_cast at this
        exact ⟨by omega, by omega⟩
      have s1 := sumL_I (f := fun m => U.2 45 (24 * (nI p).toNatClampNeg + m)) (n := 24) sb (by decide)
      have s2 := sumZ_nn (f := fun i => (U.2 45 (24 * (nI p).toNatClampNeg + i)).toInt) (n := 24) (fun i hi => (av _ (by rw [ec]; omega)).1)
      have s3 := sumZ_bd (f := fun i => (U.2 45 (24 * (nI p).toNatClampNeg + i)).toInt) (B := 300000) (n := 24) (fun i hi => (sb i hi).2)
      rw [← s1] at s2 s3
      rw [Int32.lt_iff_toInt_lt, Int64.toInt_toInt32, Int.bmod_eq_of_le (by omega) (by omega), show ((-1 : Int32)).toInt = -1 from rfl] at q
      omega
  · exact STEP.thr h he
theorem pd_50 {τ : Mu} {p k : Nat} {s : Int64} (hp : un τ 47 k ≠ p) : ∀ n, pdL (sI τ 50 k (nI 1)) p s n = pdL τ p s n
  | 0 => rfl
  | n + 1 => by
    show pdL (sI τ 50 k (nI 1)) p s n - (if un (sI τ 50 k (nI 1)) 47 n = p ∧ un (sI τ 50 k (nI 1)) 50 n = 0 then τ.2 49 n else lN 0) = pdL τ p s n - (if un τ 47 n = p ∧ un τ 50 n = 0 then τ.2 49 n else lN 0)
    rw [pd_50 hp n, un_g (k := 47) (τ := τ) (sI_r (by decide))]
    by_cases z : n = k
    · rw [z, if_neg (fun q => hp q.1), if_neg (fun q => hp q.1)]
    · rw [un_cg (k := 50) (τ := τ) (sI_k z)]
theorem stp_back (h : INV e τ n0 n1 n2) (he : e < 24) (g : AR_back τ n0 n1 n2 told U m0 m1 m2) : STEP e τ told U m0 m1 m2 := by
  obtain ⟨k, hk1, hwr, rfl, rfl, rfl⟩ := g
  rcases thrl2 hwr with ⟨z, rfl, rfl⟩ | ⟨q, rfl⟩
  · have h' := h
    obtain ⟨⟨hw, hk, _⟩, ⟨g0, g1, g2⟩, ⟨h6, h5⟩, hg, ho, hpk, hpy, hm, hs, hB, hA, hgp, hbu, hp⟩ := h
    have h51 := hw.np.2
    obtain ⟨wU, kU⟩ := lk_comeBack hw hk (by omega) z
    have hk51 := rng_lt (by omega) (cd2_0 z).1
    have ec : (nI k).toNatClampNeg = k := nI_clamp (by omega)
    rw [ec] at wU kU ⊢
    refine ⟨?_, fun q => ?_⟩
    · have := INV.cg h' he wU kU (fun j hj => sI_r (by omega)) rfl (by rw [un_g (τ := τ) (sI_r (by decide))]; exact h5) (fun g hg1 => by rw [un_g (τ := τ) (sI_r (by decide))] at hg1 ⊢; exact hg g hg1) (hB.cg (sI_r (by decide))) hA.up
      rw [un_g (τ := τ) (k := 44) (sI_r (by decide)), ← g2] at this
      exact this
    · by_cases p2 : un τ 47 k ≤ 2
      · exact absurd q (good_32 ((hgp (by omega) k hk51).2 p2))
      · have vp : ∀ r, VP r τ (sI τ 50 k (nI 1)) := fun r => VP.of hw (fun j hj => sI_r (by omega)) (fun m _ => rfl)
        intro j hj
        have py : ∀ p, p < 3 → ∀ n, n ≤ 24 → sumL (pyL (sI τ 50 k (nI 1)) p) n = sumL (pyL τ p) n := fun p _ n hn => sumL_cg fun i hi => (vp p).py (by omega)
        have h46 := hw.op.2
        unfold tlV
        by_cases j3 : j < 3
        · rw [if_pos j3, if_pos j3]
          unfold odL
          rw [un_g (k := 46) (τ := τ) (sI_r (by decide)), un_g (k := 51) (τ := τ) (sI_r (by decide)), pd_50 (by omega), py j j3 _ (by split <;> omega)]
        rw [if_neg j3, if_neg j3]
        by_cases j6 : j < 6
        · rw [if_pos j6, if_pos j6, slL4, slL4, (vp _).nt (by decide)]
        rw [if_neg j6, if_neg j6]
        by_cases j9 : j < 9
        · rw [if_pos j9, if_pos j9]
          have e1 : leftN (sI τ 50 k (nI 1)) (j - 6) 400 = leftN τ (j - 6) 400 := by
            unfold leftN
            rw [(vp _).tke, (vp _).tkd]
          rw [e1]
        rw [if_neg j9, if_neg j9]
        by_cases j12 : j < 12
        · rw [if_pos j12, if_pos j12]; rfl
        rw [if_neg j12, if_neg j12]
        by_cases j15 : j < 15
        · rw [if_pos j15, if_pos j15, slL6, slL6, (vp _).py (by decide)]
        rw [if_neg j15, if_neg j15, un_g (k := 46) (τ := τ) (sI_r (by decide)), un_g (k := 51) (τ := τ) (sI_r (by decide))]
  · exact STEP.thr h he
theorem stp_leave (h : INV e τ n0 n1 n2) (he : e < 24) (g : AR_leave τ n0 n1 n2 told U m0 m1 m2) : STEP e τ told U m0 m1 m2 := by
  obtain ⟨c, d, hc, hd, hwr, rfl, rfl, rfl⟩ := g
  rcases thr2 hwr (.inl rfl) (.inr (.inr rfl)) with ⟨z, rfl, rfl⟩ | ⟨q, rfl⟩
  · have h' := h
    obtain ⟨⟨hw, hk, _⟩, ⟨g0, g1, g2⟩, ⟨h6, h5⟩, hg, ho, hpk, hpy, hm, hs, hB, hA, hgp, hbu, hp⟩ := h
    have h17 := hw.nl.2
    obtain ⟨wU, kU⟩ := lk_leave hw hk (by omega) z
    have l30 : un τ 17 17 ≠ 30 := of_decide_eq_true (cd2_0 z).2
    have f : ∀ j, j ≠ 14 → j ≠ 15 → j ≠ 17 → (sI (sI (sI τ 14 (un τ 17 17) (nI c)) 15 (un τ 17 17) (nI d)) 17 17 (nI (un τ 17 17 + 1))).1 j = τ.1 j := fun j a1 a2 a3 => by rw [sI_r a3, sI_r a2, sI_r a1]
    have u17 : un (sI (sI (sI τ 14 (un τ 17 17) (nI c)) 15 (un τ 17 17) (nI d)) 17 17 (nI (un τ 17 17 + 1))) 17 17 = un τ 17 17 + 1 := un_of sI_s (by omega)
    have u9 := un_g (i := 9) (f 9 (by decide) (by decide) (by decide))
    have u26 := un_g (i := 26) (f 26 (by decide) (by decide) (by decide))
    have ub : BUD (sI (sI (sI τ 14 (un τ 17 17) (nI c)) 15 (un τ 17 17) (nI d)) 17 17 (nI (un τ 17 17 + 1))) = BUD τ + 1 := by
      unfold BUD
      rw [u17, u9, u26, un_g (k := 46) (f 46 (by decide) (by decide) (by decide)), un_g (k := 13) (f 13 (by decide) (by decide) (by decide)), un_g (k := 24) (i := 6) (f 24 (by decide) (by decide) (by decide)), show (fun e => un (sI (sI (sI τ 14 (un τ 17 17) (nI c)) 15 (un τ 17 17) (nI d)) 17 17 (nI (un τ 17 17 + 1))) 24 e) = fun e => un τ 24 e from funext fun e => un_g (f 24 (by decide) (by decide) (by decide))]
      omega
    refine ⟨?_, fun q => absurd q ?_⟩
    · have := INV.st h' he wU kU (by rw [u9]; exact h6) (ho.cg (f 9 (by decide) (by decide) (by decide)) (f 0 (by decide) (by decide) (by decide)) (f 4 (by decide) (by decide) (by decide))) (hpk.cg (f 2 (by decide) (by decide) (by decide)) (f 3 (by decide) (by decide) (by decide)) (f 7 (by decide) (by decide) (by decide))) (hpy.cg (f 9 (by decide) (by decide) (by decide)) (f 7 (by decide) (by decide) (by decide))) (hm.cg (f 22 (by decide) (by decide) (by decide)) (f 23 (by decide) (by decide) (by decide)) (f 24 (by decide) (by decide) (by decide))) (hs.cg (f 8 (by decide) (by decide) (by decide)) (f 9 (by decide) (by decide) (by decide)) (f 11 (by decide) (by decide) (by decide)) (f 13 (by decide) (by decide) (by decide))) (f 30 (by decide) (by decide) (by decide)) (f 38 (by decide) (by decide) (by decide)) (f 44 (by decide) (by decide) (by decide)) (f 47 (by decide) (by decide) (by decide)) (f 51 (by decide) (by decide) (by decide)) rfl (by rw [ub]; omega) (fun _ _ _ q _ => by rw [u17] at q; omega)
      rw [u9, u26, ← g0, ← g1] at this
      exact this
    · cases (decide (ltN (sI (sI (sI τ 14 (un τ 17 17) (nI c)) 15 (un τ 17 17) (nI d)) 17 17 (nI (un τ 17 17 + 1))) (un τ 17 17) = 1)) <;> decide
  · exact STEP.thr h he
theorem stp_shift (h : INV e τ n0 n1 n2) (he : e < 24) (g : AR_shift τ n0 n1 n2 told U m0 m1 m2) : STEP e τ told U m0 m1 m2 := by
  obtain ⟨c, d, mi, le, hc, hd, hmi, hle, hwr, rfl, rfl, rfl⟩ := g
  rcases thr3 hwr with ⟨z, rfl, rfl⟩ | ⟨q, rfl⟩
  · have h' := h
    obtain ⟨⟨hw, hk, _⟩, ⟨g0, g1, g2⟩, ⟨h6, h5⟩, hg, ho, hpk, hpy, hm, hs, hB, hA, hgp, hbu, hp⟩ := h
    have h13 := hw.sh.2
    obtain ⟨wU, kU⟩ := lk_shift hw hk (by omega) z
    obtain ⟨z1, z2, z3⟩ := cd3_0 z
    have l40 : un τ 13 13 ≠ 40 := of_decide_eq_true (Bool.and_eq_true_iff.mp z3).1
    obtain ⟨mm, _, hmm, em⟩ := inB_N (a := 0) (b := 1439) (by decide) (by decide) (Bool.and_eq_true_iff.mp z2).1
    have hmi2 : mi ≤ 1439 := by
      have e1 := nI_toInt (n := mi) (by omega)
      rw [em, nI_toInt (by omega)] at e1
      omega
    rw [nI_clamp (n := c) (by omega), nI_clamp (n := d) (by omega), nI_clamp (n := mi) (by omega), nI_clamp (n := le) (by omega)] at wU kU ⊢
    have f : ∀ j, j < 8 ∨ j = 9 ∨ 14 ≤ j → (shU τ c d mi le).1 j = τ.1 j := fun j hj => shU_o hj
    have u13 := shU_13 (τ := τ) (c := c) (d := d) (m := mi) (n := le) (by omega)
    have u9 := un_g (i := 9) (f 9 (by decide))
    have u26 := un_g (i := 26) (f 26 (by decide))
    have ub : BUD (shU τ c d mi le) = BUD τ + 1 := by
      unfold BUD
      rw [u13, u9, u26, un_g (k := 46) (f 46 (by decide)), un_g (k := 17) (f 17 (by decide)), un_g (k := 24) (i := 6) (f 24 (by decide)), show (fun e => un (shU τ c d mi le) 24 e) = fun e => un τ 24 e from funext fun e => un_g (f 24 (by decide))]
      omega
    have hsU : SHF (shU τ c d mi le) := by
      intro c1 d1 hc1 hd1 hne
      rw [u9] at hc1
      rw [u13]
      by_cases q1 : 720 * c1 + d1 = 720 * c + d
      · exact ⟨un τ 13 13, by omega, .inl (by rw [shU_11n (by omega)]; omega)⟩
      · by_cases q2 : d < 719 ∧ 720 * c1 + d1 = 720 * c + d + 1
        · exact ⟨un τ 13 13, by omega, .inr (by rw [shU_11n (by omega)]; omega)⟩
        · rw [un_cg (shU_8 q1 (fun a b => q2 ⟨a, b⟩))] at hne
          obtain ⟨i, hi, q⟩ := hs c1 d1 hc1 hd1 hne
          exact ⟨i, by omega, by rw [un_cg (shU_11o (by omega))]; exact q⟩
    refine ⟨?_, fun q => absurd q (nin (by omega))⟩
    have := INV.st h' he wU kU (by rw [u9]; exact h6) (ho.cg (f 9 (by decide)) (f 0 (by decide)) (f 4 (by decide))) (hpk.cg (f 2 (by decide)) (f 3 (by decide)) (f 7 (by decide))) (hpy.cg (f 9 (by decide)) (f 7 (by decide))) (hm.cg (f 22 (by decide)) (f 23 (by decide)) (f 24 (by decide))) hsU (f 30 (by decide)) (f 38 (by decide)) (f 44 (by decide)) (f 47 (by decide)) (f 51 (by decide)) shU_2 (by rw [ub]; omega) (fun _ _ q _ _ => by rw [u13] at q; omega)
    rw [u9, u26, ← g0, ← g1] at this
    exact this
  · exact STEP.thr h he
theorem stp_contract (h : INV e τ n0 n1 n2) (he : e < 24) (g : AR_contract τ n0 n1 n2 told U m0 m1 m2) : STEP e τ told U m0 m1 m2 := by
  obtain ⟨p, q_, fr, t, b, w, v, hp8, hq4, hf, ht, hw1, hv, hpb, h06, hwr, rfl, rfl, rfl⟩ := g
  rcases thr3 hwr with ⟨z, rfl, rfl⟩ | ⟨q, rfl⟩
  · have h' := h
    obtain ⟨⟨hw, hk, _⟩, ⟨g0, g1, g2⟩, ⟨h6, h5⟩, hg, ho, hpk, hpy, hm, hs, hB, hA, hgp, hbu, hp⟩ := h
    obtain ⟨wU, kU⟩ := lk_contract hw hk (by omega) z
    rw [if_neg (nno (by omega))]
    refine ⟨?_, fun q => absurd q (nin (by omega))⟩
    have hz : (sI (spS (sI (sI (sI (sI (sI (sI (sI τ 0 (un τ 9 9) (nI p)) 1 (un τ 9 9) (nI q_)) 2 (un τ 9 9) (nI fr)) 3 (un τ 9 9) (nI t)) 4 (un τ 9 9) (bI b)) 5 (un τ 9 9) (nI (50 + w))) 6 (720 * un τ 9 9 + (nI fr).toNatClampNeg) (nI v)) (un τ 9 9) 720) 9 9 (nI (un τ 9 9 + 1))) = coT τ (nI p) (nI q_) (nI fr) (nI t) b (nI (50 + w)) (nI v) := rfl
    rw [hz] at wU kU ⊢
    generalize hU : coT τ (nI p) (nI q_) (nI fr) (nI t) b (nI (50 + w)) (nI v) = U at *
    have o3 := ho.1
    have f : ∀ j, j = 8 ∨ 10 ≤ j → U.1 j = τ.1 j := fun j hj => by rw [← hU]; exact coT_o hj
    have u9 : un U 9 9 = un τ 9 9 + 1 := by rw [← hU]; exact coT_9 (by omega)
    have old : ∀ k c, k < 6 → c ≠ un τ 9 9 → un U k c = un τ k c := fun k c hk hc => by rw [← hU]; exact un_cg (coT_old hk hc)
    have n0_ : un U 0 (un τ 9 9) = p := by rw [← hU]; exact un_of coT_n0 (by omega)
    have n4_ : b = true → un U 4 (un τ 9 9) = 1 := fun hb => by rw [← hU]; exact un_of (by rw [coT_n4, hb]; rfl) (by decide)
    have old7 : ∀ c d, c ≠ un τ 9 9 → d < 720 → un U 7 (720 * c + d) = un τ 7 (720 * c + d) := fun c d hc hd => by rw [← hU]; exact un_cg (coT_7 (by omega))
    have n7 : ∀ d, d < 720 → un U 7 (720 * un τ 9 9 + d) ≤ 4999 := fun d hd => by
      rw [← hU, coT_pay (by omega) (by omega) (hk.n6 (by omega)) hd]
      split <;> omega
    have u26 := un_g (i := 26) (f 26 (by decide))
    have ub : BUD U = BUD τ + 1 := by
      unfold BUD
      rw [u9, u26, un_g (k := 46) (f 46 (by decide)), un_g (k := 17) (f 17 (by decide)), un_g (k := 13) (f 13 (by decide)), un_g (k := 24) (i := 6) (f 24 (by decide)), show (fun e => un U 24 e) = fun e => un τ 24 e from funext fun e => un_g (f 24 (by decide))]
      omega
    have hoU : OWN U := by
      refine ⟨by omega, fun c hc => by rw [old 0 c (by decide) (by omega)]; exact ho.2.1 c hc, fun c h3 h9 h0 => ?_⟩
      rw [u9] at h9
      by_cases q : c = un τ 9 9
      · rw [q] at h0 ⊢
        rw [n0_] at h0
        exact n4_ (hpb (by omega))
      · rw [old 0 c (by decide) q] at h0
        rw [old 4 c (by decide) q]
        exact ho.2.2 c h3 (by omega) h0
    have hkU : PK U := fun c hc => by
      obtain ⟨a1, a2, P, a3, a4, a5⟩ := hpk c hc
      refine ⟨by rw [old 2 c (by decide) (by omega)]; exact a1, by rw [old 3 c (by decide) (by omega)]; exact a2, P, a3, a4, fun d d1 d2 => ?_⟩
      rw [old 2 c (by decide) (by omega)] at d1
      rw [old7 c d (by omega) d2]
      exact a5 d d1 d2
    have hyU : PYS U := fun c d hc hd => by
      rw [u9] at hc
      by_cases q : c = un τ 9 9
      · rw [q]; exact n7 d hd
      · rw [old7 c d q hd]; exact hpy c d (by omega) hd
    have hsU : SHF U := fun c d hc hd hne => by
      rw [u9] at hc
      rw [un_g (k := 8) (f 8 (by decide))] at hne
      by_cases q : c = un τ 9 9
      · exact absurd (hw.mn1 (720 * c + d) (by rw [q]; omega) (by rw [q]; omega)) hne
      · obtain ⟨i, hi, r⟩ := hs c d (by omega) hd hne
        exact ⟨i, by rw [un_g (k := 13) (f 13 (by decide))]; exact hi, by rw [un_g (k := 11) (f 11 (by decide))]; exact r⟩
    have := INV.st h' he wU kU (by rw [u9]; omega) hoU hkU hyU (hm.cg (f 22 (by decide)) (f 23 (by decide)) (f 24 (by decide))) hsU (f 30 (by decide)) (f 38 (by decide)) (f 44 (by decide)) (f 47 (by decide)) (f 51 (by decide)) (by rw [← hU]; rfl) (by rw [ub]; omega) (fun _ _ _ _ q => by rw [u9] at q; omega)
    rw [u9, u26, ← g1] at this
    rw [g0]
    exact this
  · rw [if_pos (neg3 q)]
    exact STEP.thr h he
end Steps
