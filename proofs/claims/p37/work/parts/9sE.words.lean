/-! THE INVARIANT: words and elements -/
theorem FRM.trans {σ τ U : Mu} (a : FRM σ τ) (b : FRM τ U) : FRM σ U := ⟨Nat.le_trans a.1 b.1, fun e he => by
  obtain ⟨a1, a2, a3⟩ := a.2 e he
  obtain ⟨b1, b2, b3⟩ := b.2 e (Nat.lt_of_lt_of_le he a.1)
  exact ⟨a1.trans b1, a2.trans b2, fun j hj => ⟨(a3 j hj).1.trans (b3 j hj).1, (a3 j hj).2.trans (b3 j hj).2⟩⟩⟩
/-- words and elements leave how it stood -/
theorem PURE.ag {τ U : Mu} (h : PURE τ) (ag : AG U τ) (fr : FRM τ U) : PURE U := by
  obtain ⟨z, hb, σ, ws, ms, a, f, hp⟩ := h
  have e51 : un U 51 51 = un τ 51 51 := ag.u (.inr (by decide))
  have e46 : un U 46 46 = un τ 46 46 := ag.u (.inr (by decide))
  refine ⟨ag.pz z, fun k hk => ?_, σ, ws, ms, ⟨fun k hk => (a.1 k hk).trans (ag.1 k hk).symm, a.2.trans ag.2.symm⟩, f.trans fr, fun p hp3 => ?_⟩
  · rw [e51] at hk
    rw [ag.u (.inr (by decide))]
    exact hb k hk
  · have ep : paidI U p (un U 51 51) = paidI τ p (un τ 51 51) := by
      rw [e51]
      unfold paidI
      exact sumZ_cg fun k _ => by rw [ag.u (k := 47) (.inr (by decide)), ag.u (k := 50) (.inr (by decide)), ag.2]
    rw [ep, e46]
    exact hp p hp3
theorem sumN_ch {f g : Nat → Nat} {c : Nat} (h : ∀ i, i ≠ c → f i = g i) : ∀ {n : Nat}, c < n → sumN f 0 n + g c = sumN g 0 n + f c
  | 0, hn => absurd hn (Nat.not_lt_zero _)
  | n + 1, hn => by
    show sumN f 0 n + f (0 + n) + g c = sumN g 0 n + g (0 + n) + f c
    rw [Nat.zero_add]
    by_cases z : c = n
    · subst z
      rw [sumN_cg0 (f := f) (g := g) (a := 0) (fun i hi => h _ (by omega))]
      omega
    · have := sumN_ch h (n := n) (by omega)
      rw [h n (fun q => z q.symm)]
      omega
section Steps
variable {e : Nat} {τ U : Mu} {n0 n1 n2 m0 m1 m2 : Nat} {told : Int32}
theorem stp_word (h : INV e τ n0 n1 n2) (he : e < 24) (g : AR_word τ n0 n1 n2 told U m0 m1 m2) : STEP e τ told U m0 m1 m2 := by
  obtain ⟨a, b, ha, hb7, hwr, rfl, rfl, rfl⟩ := g
  rcases thr2 hwr (.inr (.inl rfl)) (.inr (.inr rfl)) with ⟨z, rfl, rfl⟩ | ⟨q, rfl⟩
  · have h' := h
    obtain ⟨⟨hw, hk, _⟩, ⟨g0, g1, g2⟩, ⟨h6, h5⟩, hg, ho, hpk, hpy, hm, hs, hB, hA, hgp, hbu, hp⟩ := h
    have hE := hw.ne.2
    obtain ⟨wU, kU⟩ := lk_word hw hk (by omega) z
    have n10 : un τ 24 6 ≠ 10 := of_decide_eq_true (Bool.and_eq_true_iff.mp (cd2_0 z).2).1
    have l10 : un τ 24 6 < 10 := by have := (hw.el 6 (by omega)).2; omega
    have hz : sI (sI (sI τ 22 (60 + un τ 24 6) (nI a)) 23 (60 + un τ 24 6) (nI b)) 24 6 (nI (un τ 24 6 + 1)) = woU τ (nI a) (nI b) := rfl
    rw [hz] at wU kU ⊢
    have f : ∀ j, j ≠ 22 ∧ j ≠ 23 ∧ j ≠ 24 → (woU τ (nI a) (nI b)).1 j = τ.1 j := fun j hj => woU_o hj
    have u6 := woU_6 (τ := τ) (x := nI a) (y := nI b) l10
    have u9 := un_g (i := 9) (f 9 (by decide))
    have u26 := un_g (i := 26) (f 26 (by decide))
    have f2 : (woU τ (nI a) (nI b)).2 = τ.2 := rfl
    have u24 : ∀ x, x ≠ 6 → un (woU τ (nI a) (nI b)) 24 x = un τ 24 x := fun x hx => un_cg (woU_24 hx)
    generalize hU : woU τ (nI a) (nI b) = U at *
    have ub : BUD U = BUD τ + 1 := by
      unfold BUD
      rw [u6, u9, u26, un_g (k := 46) (f 46 (by decide)), un_g (k := 17) (f 17 (by decide)), un_g (k := 13) (f 13 (by decide)), sumN_cg0 (f := fun x => un U 24 x) (g := fun x => un τ 24 x) (a := 0) (fun i hi => u24 _ (by omega))]
      omega
    have ag : AG U τ := ⟨fun k hk => f k (by omega), f2⟩
    have fr : FRM τ U := ⟨Nat.le_of_eq u26.symm, fun x hx => ⟨(u24 x (by omega)).symm, (un_g (f 25 (by decide))).symm, fun j hj => ⟨by rw [← hU]; exact (woU_22 (by omega)).symm, by rw [← hU]; exact (woU_23 (by omega)).symm⟩⟩⟩
    have hmU : MO U := fun x j hx hj h3 => by
      by_cases q : x = 6
      · subst q
        rw [u6] at hj
        by_cases r : j = un τ 24 6
        · exact ⟨b, by omega, by rw [r, ← hU]; exact woU_23n⟩
        · have r1 : U.1 22 (10 * 6 + j) = τ.1 22 (10 * 6 + j) := by rw [← hU]; exact woU_22 (by omega)
          have r2 : U.1 23 (10 * 6 + j) = τ.1 23 (10 * 6 + j) := by rw [← hU]; exact woU_23 (by omega)
          rw [un_cg r1] at h3
          rw [r2]
          exact hm 6 j hx (by omega) h3
      · rw [u24 x q] at hj
        have l := (hw.el x (by omega)).2
        have r1 : U.1 22 (10 * x + j) = τ.1 22 (10 * x + j) := by rw [← hU]; exact woU_22 (by omega)
        have r2 : U.1 23 (10 * x + j) = τ.1 23 (10 * x + j) := by rw [← hU]; exact woU_23 (by omega)
        rw [un_cg r1] at h3
        rw [r2]
        exact hm x j hx hj h3
    refine ⟨?_, fun q => absurd q (nin (by omega))⟩
    have := INV.st h' he wU kU (by rw [u9]; exact h6) (ho.cg (f 9 (by decide)) (f 0 (by decide)) (f 4 (by decide))) (hpk.cg (f 2 (by decide)) (f 3 (by decide)) (f 7 (by decide))) (hpy.cg (f 9 (by decide)) (f 7 (by decide))) hmU (hs.cg (f 8 (by decide)) (f 9 (by decide)) (f 11 (by decide)) (f 13 (by decide))) (f 30 (by decide)) (f 38 (by decide)) (f 44 (by decide)) (f 47 (by decide)) (f 51 (by decide)) f2 (by rw [ub]; omega) (fun q0 q1 q2 q3 q4 => (hp (by omega) (by omega) (by rw [← un_g (f 13 (by decide))]; exact q2) (by rw [← un_g (f 17 (by decide))]; exact q3) (by rw [← u9]; exact q4)).ag ag fr)
    rw [u9, u26, ← g0, ← g1] at this
    exact this
  · exact STEP.thr h he
theorem stp_element (h : INV e τ n0 n1 n2) (he : e < 24) (g : AR_element τ n0 n1 n2 told U m0 m1 m2) : STEP e τ told U m0 m1 m2 := by
  obtain ⟨a, b, ha, hb65, hwr, rfl, rfl, rfl⟩ := g
  rcases thr3 hwr with ⟨z, rfl, rfl⟩ | ⟨q, rfl⟩
  · have h' := h
    obtain ⟨⟨hw, hk, _⟩, ⟨g0, g1, g2⟩, ⟨h6, h5⟩, hg, ho, hpk, hpy, hm, hs, hB, hA, hgp, hbu, hp⟩ := h
    have hE := hw.ne.2
    obtain ⟨wU, kU⟩ := lk_element hw hk (by omega) z
    obtain ⟨z1, z2, z3⟩ := cd3_0 z
    have ea : (nI a).toNatClampNeg = a := nI_clamp (by omega)
    have eb : (nI b).toNatClampNeg = b := nI_clamp (by omega)
    obtain ⟨aa, _, haa, ema⟩ := inB_N (a := 0) (b := un τ 26 26) (by decide) (by omega) (Bool.and_eq_true_iff.mp z1).1
    have haE : a ≤ un τ 26 26 := by
      have e1 := nI_toInt (n := a) (by omega)
      rw [ema, nI_toInt (by omega)] at e1
      omega
    have ha6 : a < 6 := by
      have := of_decide_eq_true (Bool.and_eq_true_iff.mp z1).2
      rw [Int32.lt_iff_toInt_lt, nI_toInt (by omega), nI_toInt (by decide)] at this
      omega
    have hodd : fmD τ 6 (un τ 24 6) = 1 := of_decide_eq_true (Bool.and_eq_true_iff.mp z3).1
    rw [ea, eb] at wU kU ⊢
    have f : ∀ j, j < 22 ∨ 28 ≤ j → (elU τ a b).1 j = τ.1 j := fun j hj => enU_o hj
    have f2 : (elU τ a b).2 = τ.2 := enU_2
    have s24 : ∀ x, un (elU τ a b) 24 x = un (elS τ a b) 24 x := fun x => un_g (enU_k (by decide))
    have c24 : un (elU τ a b) 24 a = un τ 24 6 := (s24 a).trans (elS_elc hw ha6)
    have z24 : un (elU τ a b) 24 6 = 0 := (s24 6).trans elS_el6
    have o24 : ∀ x, x ≠ a → x ≠ 6 → un (elU τ a b) 24 x = un τ 24 x := fun x h1 h2 => (s24 x).trans (elS_elo h1 h2)
    have u26 : un (elU τ a b) 26 26 = un τ 26 26 + (if a = un τ 26 26 then 1 else 0) := (un_g (enU_k (by decide))).trans (elS_n hw)
    have rc : ∀ k j, (k = 22 ∨ k = 23) → j < 10 → (elU τ a b).1 k (10 * a + j) = τ.1 k (60 + j) := fun k j hk hj => (congrFun (enU_k (by omega)) _).trans (elS_rowc hk hj)
    have ro : ∀ k j x, (k = 22 ∨ k = 23) → j < 10 → x ≠ a → (elU τ a b).1 k (10 * x + j) = τ.1 k (10 * x + j) := fun k j x hk hj hx => (congrFun (enU_k (by omega)) _).trans (elS_rowo hk hj hx)
    have o25 : ∀ x, x ≠ a → un (elU τ a b) 25 x = un τ 25 x := fun x hx => un_cg (enU_25 hx)
    have u9 := un_g (i := 9) (f 9 (by decide))
    generalize elU τ a b = U at *
    have hmU : MO U := fun x j hx hj h3 => by
      by_cases q : x = a
      · rw [q] at hj h3 ⊢
        rw [c24] at hj
        have l := (hw.el 6 (by omega)).2
        rw [show un U 22 (10 * a + j) = un τ 22 (10 * 6 + j) by unfold un; rw [rc 22 j (.inl rfl) (by omega)]] at h3
        rw [rc 23 j (.inr rfl) (by omega)]
        exact hm 6 j (by decide) hj h3
      · by_cases q6 : x = 6
        · rw [q6, z24] at hj; exact absurd hj (Nat.not_lt_zero _)
        · rw [o24 x q q6] at hj
          have l := (hw.el x (by omega)).2
          rw [un_cg (ro 22 j x (.inl rfl) (by omega) q)] at h3
          rw [ro 23 j x (.inr rfl) (by omega) q]
          exact hm x j hx hj h3
    have rest : ∀ X, BUD U = X → X ≤ BUD τ + 1 → (X = BUD τ + 1 → PURE τ → PURE U) → INV (e + 1) U (un U 9 9) (un U 26 26) m2 := fun X hX hX1 hXp => INV.st h' he wU kU (by rw [u9]; exact h6) (ho.cg (f 9 (by decide)) (f 0 (by decide)) (f 4 (by decide))) (hpk.cg (f 2 (by decide)) (f 3 (by decide)) (f 7 (by decide))) (hpy.cg (f 9 (by decide)) (f 7 (by decide))) hmU (hs.cg (f 8 (by decide)) (f 9 (by decide)) (f 11 (by decide)) (f 13 (by decide))) (f 30 (by decide)) (f 38 (by decide)) (f 44 (by decide)) (f 47 (by decide)) (f 51 (by decide)) f2 (by omega) (fun q0 q1 q2 q3 q4 => hXp (by omega) (hp (by omega) (by omega) (by rw [← un_g (f 13 (by decide))]; exact q2) (by rw [← un_g (f 17 (by decide))]; exact q3) (by rw [← u9]; exact q4)))
    have u46 := un_g (i := 46) (f 46 (by decide))
    have u13 := un_g (i := 13) (f 13 (by decide))
    have u17 := un_g (i := 17) (f 17 (by decide))
    by_cases nw : a = un τ 26 26
    · rw [if_pos nw] at u26 ⊢
      rw [g1, if_pos rfl]
      have bu : BUD U = BUD τ + 1 := by
        unfold BUD
        rw [u26, u46, u13, u17, u9, z24]
        show un τ 46 46 + (un τ 26 26 + 1) + (sumN (fun x => un U 24 x) 0 (un τ 26 26) + un U 24 (0 + un τ 26 26)) + 0 + un τ 13 13 + un τ 17 17 + (un τ 9 9 - 3) = _
        rw [sumN_cg0 (f := fun x => un U 24 x) (g := fun x => un τ 24 x) (a := 0) (fun i hi => o24 _ (by omega) (by omega)), Nat.zero_add, ← nw, c24]
        omega
      refine ⟨?_, fun q => absurd q (nin (by omega))⟩
      have := rest _ bu (Nat.le_refl _) (fun _ hP => hP.ag ⟨fun k hk => f k hk, f2⟩ ⟨by omega, fun x hx => ⟨(o24 x (by omega) (by omega)).symm, (o25 x (by omega)).symm, fun j hj => ⟨(ro 22 j x (.inl rfl) hj (by omega)).symm, (ro 23 j x (.inr rfl) hj (by omega)).symm⟩⟩⟩)
      rw [u9, u26, ← g0] at this
      exact this
    · rw [if_neg nw] at u26 ⊢
      have ne : ¬ (nI (un τ 26 26 + 0) = nI (n1 + 1)) := fun q => by
        have := congrArg Int32.toInt q
        rw [nI_toInt (by omega), nI_toInt (by omega)] at this
        omega
      rw [if_neg ne]
      have bu : BUD U ≤ BUD τ := by
        have ch := sumN_ch (f := fun x => un U 24 x) (g := fun x => if x = a then un τ 24 x else un U 24 x) (c := a) (fun i hi => by show un U 24 i = _; rw [if_neg hi]) (n := un τ 26 26) (by omega)
        have cg : sumN (fun x => if x = a then un τ 24 x else un U 24 x) 0 (un τ 26 26) = sumN (fun x => un τ 24 x) 0 (un τ 26 26) := sumN_cg0 fun i hi => by
          show (if 0 + i = a then un τ 24 (0 + i) else un U 24 (0 + i)) = un τ 24 (0 + i)
          by_cases q : 0 + i = a
          · rw [if_pos q]
          · rw [if_neg q, o24 _ q (by omega)]
        rw [cg] at ch
        have ch2 : sumN (fun x => un U 24 x) 0 (un τ 26 26) + un τ 24 a = sumN (fun x => un τ 24 x) 0 (un τ 26 26) + un τ 24 6 := by
          rw [if_pos (rfl : a = a), c24] at ch
          exact ch
        unfold BUD
        rw [show un U 26 26 = un τ 26 26 from u26, u46, u13, u17, u9, z24]
        omega
      refine ⟨?_, fun q => absurd q (nin (by omega))⟩
      have := rest _ rfl (by omega) (fun q => by omega)
      rw [u9, u26, Nat.add_zero, ← g0, ← g1] at this
      exact this
  · have : ¬ told = nI (n1 + 1) := fun r => by
      have hn1 : n1 < 2 ^ 30 := by have := h.1.1.ne.2; have := h.2.1.2.1; omega
      rw [r] at q
      exact nno (n := n1 + 1) (by omega) (neg3 q)
    rw [if_neg this]
    exact STEP.thr h he
end Steps
