/-! THE CLASS: takeLeave -/
theorem PcL.fr {τ : Mu} {p : Nat} {G : gW} {A : Nat → Prop} {M M' : Mem} {h : Nat → Nat} {nc : Nat} {cn : Nat → Nat} {fc : Nat → Nat → Nat} (g : PcL τ p G M h nc cn fc) (f : frm A M M') (h1 : ¬ A (h 1)) (h2 : ∀ i, i < nc → ¬ A (fc i 0) ∧ ¬ A (fc i 2) ∧ ¬ A (fc i 4)) : PcL τ p G M' h nc cn fc :=
  ⟨g.1.fr f h1, g.2.1, fun i hi => ⟨f.blk (g.2.2 i hi).1, (g.2.2 i hi).2.fr' f (h2 i hi).1 (h2 i hi).2.1 (h2 i hi).2.2⟩⟩
theorem wk_eq {τ : Mu} {p m nc : Nat} {cn : Nat → Nat} (h : EnN (fun c => un τ 0 c = p) (un τ 9 9) nc cn) (hm : m < 24) : anyN (fun i => cvB τ (cn i) (nI (30 * m) - nI 1)) nc = (decide (0 < m) && worksB τ p (30 * m - 1)) := by
  by_cases z : m = 0
  · subst z
    have : ∀ n, anyN (fun i => cvB τ (cn i) (nI (30 * 0) - nI 1)) n = false := by
      intro n
      induction n with
      | zero => rfl
      | succ n ih =>
        show (anyN (fun i => cvB τ (cn i) (nI (30 * 0) - nI 1)) n || cvB τ (cn n) (nI (30 * 0) - nI 1)) = false
        rw [ih, Bool.false_or]
        unfold cvB
        rw [decide_eq_false]
        rw [pk_sub_toInt (by decide) (by decide)]
        omega
    rw [this]
    rfl
  · rw [decide_eq_true (show 0 < m by omega), Bool.true_and, ← works_en h, pk_sub (by omega)]
    have : ∀ n, anyN (fun i => cvB τ (cn i) (nI (30 * m - 1))) n = anyN (fun i => isOfN τ (cn i) (30 * m - 1)) n := by
      intro n
      induction n with
      | zero => rfl
      | succ n ih =>
        show (anyN (fun i => cvB τ (cn i) (nI (30 * m - 1))) n || cvB τ (cn n) (nI (30 * m - 1))) = (anyN (fun i => isOfN τ (cn i) (30 * m - 1)) n || isOfN τ (cn n) (30 * m - 1))
        rw [ih, cvB_N (by omega)]
    exact this nc
theorem tkH_t {τ : Mu} {p m f : Nat} (h : (decide (0 < m) && worksB τ p (30 * m - 1)) = true) : f + un τ 18 18 = tkH τ p (30 * m) f := by
  rw [Bool.and_eq_true, decide_eq_true_iff] at h
  unfold tkH
  rw [if_pos ⟨by omega, by omega, h.2⟩]
theorem tkH_f {τ : Mu} {p m f : Nat} (h : (decide (0 < m) && worksB τ p (30 * m - 1)) = false) : f = tkH τ p (30 * m) f := by
  unfold tkH
  rw [if_neg, Nat.add_zero]
  rintro ⟨h1, h2, h3⟩
  rw [h3, decide_eq_true (show 0 < m by omega)] at h
  cases h
theorem lt01 (τ : Mu) (k : Nat) : nI (ltN τ k) = 0 ∨ nI (ltN τ k) = 1 := by
  have := ltN_le τ k
  rcases (show ltN τ k = 0 ∨ ltN τ k = 1 by omega) with e | e
  · rw [e]; exact .inl rfl
  · rw [e]; exact .inr rfl
def inS (τ : Mu) (p nl : Nat) (ln : Nat → Nat) (m E j : Nat) : Nat × Nat := if E = 30 * m then stD τ p (30 * m) 0 else stE τ p nl ln j E
theorem inS_0 {τ : Mu} {p nl m u j f c : Nat} {ln : Nat → Nat} (hl : EnL τ p nl ln) (hu : 30 * m ≤ u) (hs : tk τ p (30 * m) = (f, c)) (hlo : ∀ i, i < j → un τ 15 (ln i) < 30 * m) (hhi : ∀ i, j ≤ i → i < nl → 30 * m ≤ un τ 15 (ln i)) : ((tkD τ p (30 * m) (f, c)).1, (tkD τ p (30 * m) (f, c)).2) = inS τ p nl ln m (min u (30 * m + 30)) j := by
  have e0 : stD τ p (30 * m) 0 = tkD τ p (30 * m) (f, c) := by
    show tkD τ p (30 * m) (tk τ p (30 * m)) = _
    rw [hs]
  unfold inS
  by_cases e : min u (30 * m + 30) = 30 * m
  · rw [if_pos e, e0]
  · rw [if_neg e, ← adv hl (first := 30 * m) (d := 30 * m) (K := 0) (j := j) (by omega) (Nat.le_refl _) (by omega) (by omega) (Nat.zero_le _) (fun i a b => .inl (hlo i a)) (fun i a b => by have := hhi i a b; omega), e0]
theorem inS_j {τ : Mu} {p nl m E j : Nat} {ln : Nat → Nat} (hj : j < nl) (hd : 30 * m ≤ un τ 15 (ln j)) (hE : un τ 15 (ln j) < E) : inS τ p nl ln m E j = stD τ p (un τ 15 (ln j)) (ln j) := by
  unfold inS stE
  rw [if_neg (by omega), if_pos ⟨hj, hE⟩]
theorem inS_s {τ : Mu} {p nl m E j : Nat} {ln : Nat → Nat} (hl : EnL τ p nl ln) (hj : j < nl) (hd : 30 * m ≤ un τ 15 (ln j)) (hE : un τ 15 (ln j) < E) (hE2 : E ≤ 30 * m + 30) : inS τ p nl ln m E (j + 1) = stD τ p (un τ 15 (ln j)) (ln j + 1) := by
  unfold inS
  rw [if_neg (by omega)]
  refine (adv hl (first := 30 * m) (d := un τ 15 (ln j)) (K := ln j + 1) (j := j + 1) (by omega) hd hE hE2 (by have := (hl.1 j hj).1; omega) (fun i a b => ?_) (fun i a b => ?_)).symm
  · by_cases e : i = j
    · subst e; exact .inr ⟨rfl, by omega⟩
    · rcases hl.2.1 i j (by omega) hj with g | g
      · exact .inl g
      · exact .inr ⟨g.1, by omega⟩
  · rcases hl.2.1 j i (by omega) b with g | g
    · exact .inl g
    · exact .inr ⟨g.1, by omega⟩
theorem in_take {τ : Mu} {p nl m E j f c : Nat} {ln : Nat → Nat} (hl : EnL τ p nl ln) (hj : j < nl) (hd : 30 * m ≤ un τ 15 (ln j)) (hE : un τ 15 (ln j) < E) (hE2 : E ≤ 30 * m + 30) (hs : (f, c) = inS τ p nl ln m E j) :
    (ltN τ (ln j) = if 10 ≤ c + f then 1 else 0) ∧ (¬ 10 ≤ c + f → (f, c) = inS τ p nl ln m E (j + 1)) ∧ (10 ≤ c + f → (f - (10 - min c 10), c - min c 10) = inS τ p nl ln m E (j + 1)) := by
  rw [inS_s hl hj hd hE hE2, st_take ⟨rfl, (hl.1 j hj).2⟩, ltN_st (hl.1 j hj).2, ← inS_j hj hd hE, ← hs]
  refine ⟨if_cg ⟨fun q => by show 10 ≤ c + f; have : 10 ≤ f + c := q; omega, fun q => by show 10 ≤ f + c; omega⟩, fun q => ?_, fun q => ?_⟩
  · rw [if_neg (show ¬ 10 ≤ f + c by omega)]
  · rw [if_pos (show 10 ≤ f + c by omega)]
theorem in_end {τ : Mu} {p nl m u j f c : Nat} {ln : Nat → Nat} (hm : m < 24) (hu : 30 * m ≤ u) (hx : ¬ (j < nl ∧ un τ 15 (ln j) < min u (30 * m + 30))) (hs : (f, c) = inS τ p nl ln m (min u (30 * m + 30)) j) :
    (30 * (m + 1) ≤ u → tk τ p (30 * (m + 1)) = (f, c)) ∧ (u < 30 * (m + 1) → f + c = leftN τ p u) := by
  refine ⟨fun q => ?_, fun q => ?_⟩
  · rw [hs]
    unfold inS stE
    rw [if_neg (by omega), if_neg hx, show min u (30 * m + 30) = 30 * (m + 1) by omega]
  · have e : f + c = (f, c).1 + (f, c).2 := rfl
    rw [e, hs]
    unfold inS stE leftN
    by_cases z : u = 30 * m
    · rw [if_pos (by omega), z]; rfl
    · rw [if_neg (by omega), if_neg hx, show min u (30 * m + 30) = u by omega, tkD_id (by omega)]
theorem day_ge {τ : Mu} {p nl E j : Nat} {ln : Nat → Nat} (hl : EnL τ p nl ln) (hx : ¬ (j < nl ∧ un τ 15 (ln j) < E)) : ∀ i, j ≤ i → i < nl → E ≤ un τ 15 (ln i) := by
  intro i h1 h2
  have h3 : E ≤ un τ 15 (ln j) := by
    apply Classical.byContradiction
    intro z
    exact hx ⟨by omega, by omega⟩
  by_cases e : i = j
  · subst e; exact h3
  · rcases hl.2.1 j i (by omega) h2 with g | g <;> omega
/-- what takeLeave has done behind j leaves -/
def TLm (τ : Mu) (nl : Nat) (ln la : Nat → Nat) (M : Mem) (j : Nat) (M1 : Mem) : Prop := frm (LaA nl la) M M1 ∧ (∀ i, i < nl → ∀ k, k ≠ 2 → mI M1 (la i) k = mI M (la i) k) ∧ (∀ i, i < j → mI M1 (la i) 2 = nI (ltN τ (ln i))) ∧ ∀ i, j ≤ i → i < nl → mI M1 (la i) 2 = mI M (la i) 2
theorem TLm.step {τ : Mu} {nl : Nat} {ln la : Nat → Nat} {M M1 : Mem} {j : Nat} (h : TLm τ nl ln la M j M1) (hj : j < nl) (hinj : ∀ i j, i < nl → j < nl → la i = la j → i = j) : TLm τ nl ln la M (j + 1) (wI M1 (la j) 2 (nI (ltN τ (ln j)))) := by
  obtain ⟨h1, h2, h3, h4⟩ := h
  refine ⟨h1.wi _ _ ⟨j, hj, rfl⟩, fun i hi k hk => ?_, fun i hi => ?_, fun i a b => ?_⟩
  · by_cases e : i = j
    · subst e; exact (wI_k hk).trans (h2 i hi k hk)
    · exact (congrFun (wI_a (fun z => e (hinj i j hi hj z))) k).trans (h2 i hi k hk)
  · by_cases e : i = j
    · subst e; exact wI_i
    · exact (congrFun (wI_a (fun z => e (hinj i j (by omega) hj z))) 2).trans (h3 i (by omega))
  · exact (congrFun (wI_a (fun z => by have := hinj i j b hj z; omega)) 2).trans (h4 i (by omega) b)
set_option maxHeartbeats 1000000 in
set_option maxRecDepth 100000 in
theorem c_X8_takeLeave (l : Launch) (hfl : l.flags = flags0) (G : gW) (M : Mem) (h : Nat → Nat) (hb : Blk tbPe (mK M) (mN M) (mR M) h) (τ : Mu) (hw : WF τ) (p : Nat) (nc : Nat) (cn : Nat → Nat) (fc : Nat → Nat → Nat) (hpc : PcL τ p G M h nc cn fc) (nl : Nat) (ln la : Nat → Nat) (hpl : PlL τ p G M h nl ln la) (hdj : ∀ a, LaA nl la a → a ≠ h 1 ∧ a ≠ h 2 ∧ ∀ i, i < nc → ∀ o, o < 10 → a ≠ fc i o) (u : Nat) (hu : u ≤ 720) : CT l yX8_takeLeave cX8_takeLeave 13 (some .int) 4 0 0 86 G M [.ref (h 0), .int (nI u), .int (nI (un τ 18 18)), .int (nI (un τ 19 19)), .int (nI (un τ 20 20))] (fun v M' => frm (LaA nl la) M M' ∧ (∀ i, i < nl → ∀ k, k ≠ 2 → mI M' (la i) k = mI M (la i) k) ∧ (∀ i, i < nl → un τ 15 (ln i) < u → mI M' (la i) 2 = nI (ltN τ (ln i))) ∧ (∀ i, i < nl → u ≤ un τ 15 (ln i) → mI M' (la i) 2 = mI M (la i) 2) ∧ ∃ x, v = some (.int x) ∧ (u < 720 → x = nI (leftN τ p u))) := by
  refine CT.of hfl rfl (Nat.le_of_ble_eq_true rfl) ?_
  intro pp ee ss mm ar bw mt cd C hgX hr hini
  have hbO := hb
  have h9 := hw.nc.2
  have hncl := hpc.2.1.le
  have hnll := hpl.2.1.le hw
  have hrt := hw.rt.2
  have hca := hw.ca.2
  have hte := hw.te.2
  refine V.eLo (lo' := [(0, .ref (h 0)), (1, .int (nI u)), (2, .int (nI (un τ 18 18))), (3, .int (nI (un τ 19 19))), (4, .int (nI (un τ 20 20)))]) rfl ?_
  refine r_iconst C (v := nI 0) dX8_takeLeave_0 (by decide) ?_
  refine r_istore C (lo' := [(5, .int (nI 0)), (0, .ref (h 0)), (1, .int (nI u)), (2, .int (nI (un τ 18 18))), (3, .int (nI (un τ 19 19))), (4, .int (nI (un τ 20 20)))]) dX8_takeLeave_1 (by decide) rfl ?_
  refine r_iconst C (v := nI 0) dX8_takeLeave_3 (by decide) ?_
  refine r_istore C (lo' := [(6, .int (nI 0)), (5, .int (nI 0)), (0, .ref (h 0)), (1, .int (nI u)), (2, .int (nI (un τ 18 18))), (3, .int (nI (un τ 19 19))), (4, .int (nI (un τ 20 20)))]) dX8_takeLeave_4 (by decide) rfl ?_
  refine r_iconst C (v := nI 0) dX8_takeLeave_6 (by decide) ?_
  refine r_istore C (lo' := [(7, .int (nI 0)), (6, .int (nI 0)), (5, .int (nI 0)), (0, .ref (h 0)), (1, .int (nI u)), (2, .int (nI (un τ 18 18))), (3, .int (nI (un τ 19 19))), (4, .int (nI (un τ 20 20)))]) dX8_takeLeave_7 (by decide) rfl ?_
  refine r_iconst C (v := nI 0) dX8_takeLeave_9 (by decide) ?_
  refine r_istore C (lo' := [(8, .int (nI 0)), (7, .int (nI 0)), (6, .int (nI 0)), (5, .int (nI 0)), (0, .ref (h 0)), (1, .int (nI u)), (2, .int (nI (un τ 18 18))), (3, .int (nI (un τ 19 19))), (4, .int (nI (un τ 20 20)))]) dX8_takeLeave_10 (by decide) rfl ?_
  have lp12 : ∀ (k12 : Nat) (M1 : Mem) (m : Nat) (c : Nat) (f : Nat) (j : Nat) (hm : m ≤ 24) (hbf : f ≤ 36050 ∧ c ≤ 500) (hst : (30 * m ≤ u → tk τ p (30 * m) = (f, c)) ∧ (u < 30 * m → f + c = leftN τ p u)) (hj : j ≤ nl ∧ (∀ i, i < j → un τ 15 (ln i) < min u (30 * m)) ∧ ∀ i, j ≤ i → i < nl → min u (30 * m) ≤ un τ 15 (ln i)) (htl : TLm τ nl ln la M j M1), 25 - m < k12 → V pp l ee ({ frames := 4, cells := 0, slots := 0, locals := 86 } : Room) ss mm ar bw mt cd G (MQ bw (Ke G (fun v M' => frm (LaA nl la) M M' ∧ (∀ i, i < nl → ∀ k, k ≠ 2 → mI M' (la i) k = mI M (la i) k) ∧ (∀ i, i < nl → un τ 15 (ln i) < u → mI M' (la i) 2 = nI (ltN τ (ln i))) ∧ (∀ i, i < nl → u ≤ un τ 15 (ln i) → mI M' (la i) 2 = mI M (la i) 2) ∧ ∃ x, v = some (.int x) ∧ (u < 720 → x = nI (leftN τ p u)))) ar ss 0 0 (gA G)) 13 M1 0 0 12 [(0, .ref (h 0)), (1, .int (nI u)), (2, .int (nI (un τ 18 18))), (3, .int (nI (un τ 19 19))), (4, .int (nI (un τ 20 20))), (5, .int (nI c)), (6, .int (nI f)), (7, .int (nI j)), (8, .int (nI m))] [] := by
    intro k12
    induction k12 with
    | zero => intro M1 m c f j hm hbf hst hj htl hz12; exact absurd hz12 (Nat.not_lt_zero _)
    | succ k12 ih12 =>
      intro M1 m c f j hm hbf hst hj htl hz12
      have hpc1 := hpc.fr htl.1 (fun z => (hdj _ z).1 rfl) (fun i hi => ⟨fun z => (hdj _ z).2.2 i hi 0 (by decide) rfl, fun z => (hdj _ z).2.2 i hi 2 (by decide) rfl, fun z => (hdj _ z).2.2 i hi 4 (by decide) rfl⟩)
      have hpl1 : PlL τ p G _ h nl ln la := ⟨hpl.1.fr htl.1 (fun z => (hdj _ z).2.1 rfl), hpl.2.1, fun i hi => (htl.2.1 i hi 1 (by decide)).trans (hpl.2.2.1 i hi), hpl.2.2.2⟩
      have hb := hbO |> htl.1.blk
      have hjl := hj.1
      have htd := tkD_le hw p (30 * m) (f, c)
      refine r_iload C 8 dX8_takeLeave_12 rfl ?_
      refine r_bipush C (v := nI 24) dX8_takeLeave_14 (by decide) ?_
      refine r_icmp_geN C (t := 206) (by omega) (by omega) dX8_takeLeave_16 (by decide) (fun c16 => ?_) (fun c16 => ?_)
      · skip
        have hmu : min u (30 * m) = u := by omega
        refine r_iload C 5 dX8_takeLeave_206 rfl ?_
        refine r_iload C 6 dX8_takeLeave_208 rfl ?_
        refine r_iaddN C dX8_takeLeave_210 ?_
        exact r_iret C hr (⟨htl.1, htl.2.1, fun i z1 z2 => htl.2.2.1 i (Classical.byContradiction (fun z => by have := hj.2.2 i (by omega) z1; omega)), fun i z1 z2 => htl.2.2.2 i (Classical.byContradiction (fun z => by have := hj.2.1 i (by omega); omega)) z1, nI (c + f), rfl, fun z => congrArg nI (by have := hst.2 (by omega); omega)⟩) (by first | exact Nat.zero_le _ | decide) (by first | exact Nat.zero_le _ | decide) dX8_takeLeave_211
      · skip
        refine r_iload C 8 dX8_takeLeave_19 rfl ?_
        refine r_bipush C (v := nI 30) dX8_takeLeave_21 (by decide) ?_
        refine r_imulN C dX8_takeLeave_23 ?_
        refine V.ei (y := nI (30 * m)) (congrArg nI (Nat.mul_comm _ _)) ?_
        refine r_iload_n C 1 dX8_takeLeave_24 rfl rfl ?_
        refine r_icmp_gtN C (t := 206) (by omega) (by omega) dX8_takeLeave_25 (by decide) (fun c25 => ?_) (fun c25 => ?_)
        · skip
          have hmu : min u (30 * m) = u := by omega
          refine r_iload C 5 dX8_takeLeave_206 rfl ?_
          refine r_iload C 6 dX8_takeLeave_208 rfl ?_
          refine r_iaddN C dX8_takeLeave_210 ?_
          exact r_iret C hr (⟨htl.1, htl.2.1, fun i z1 z2 => htl.2.2.1 i (Classical.byContradiction (fun z => by have := hj.2.2 i (by omega) z1; omega)), fun i z1 z2 => htl.2.2.2 i (Classical.byContradiction (fun z => by have := hj.2.1 i (by omega); omega)) z1, nI (c + f), rfl, fun z => congrArg nI (by have := hst.2 (by omega); omega)⟩) (by first | exact Nat.zero_le _ | decide) (by first | exact Nat.zero_le _ | decide) dX8_takeLeave_211
        · skip
          have hst1 := hst.1 (by omega)
          refine r_iload C 8 dX8_takeLeave_28 rfl ?_
          refine r_bipush C (v := nI 30) dX8_takeLeave_30 (by decide) ?_
          refine r_imulN C dX8_takeLeave_32 ?_
          refine V.ei (y := nI (30 * m)) (congrArg nI (Nat.mul_comm _ _)) ?_
          refine r_istore C (lo' := [(9, .int (nI (30 * m))), (0, .ref (h 0)), (1, .int (nI u)), (2, .int (nI (un τ 18 18))), (3, .int (nI (un τ 19 19))), (4, .int (nI (un τ 20 20))), (5, .int (nI c)), (6, .int (nI f)), (7, .int (nI j)), (8, .int (nI m))]) dX8_takeLeave_33 (by decide) rfl ?_
          have jn52 : V pp l ee ({ frames := 4, cells := 0, slots := 0, locals := 86 } : Room) ss mm ar bw mt cd G (MQ bw (Ke G (fun v M' => frm (LaA nl la) M M' ∧ (∀ i, i < nl → ∀ k, k ≠ 2 → mI M' (la i) k = mI M (la i) k) ∧ (∀ i, i < nl → un τ 15 (ln i) < u → mI M' (la i) 2 = nI (ltN τ (ln i))) ∧ (∀ i, i < nl → u ≤ un τ 15 (ln i) → mI M' (la i) 2 = mI M (la i) 2) ∧ ∃ x, v = some (.int x) ∧ (u < 720 → x = nI (leftN τ p u)))) ar ss 0 0 (gA G)) 13 M1 0 0 52 [(0, .ref (h 0)), (1, .int (nI u)), (2, .int (nI (un τ 18 18))), (3, .int (nI (un τ 19 19))), (4, .int (nI (un τ 20 20))), (5, .int (nI c)), (6, .int (nI (tkH τ p (30 * m) f))), (7, .int (nI j)), (8, .int (nI m)), (9, .int (nI (30 * m)))] [] := by
            skip
            have jn70 : V pp l ee ({ frames := 4, cells := 0, slots := 0, locals := 86 } : Room) ss mm ar bw mt cd G (MQ bw (Ke G (fun v M' => frm (LaA nl la) M M' ∧ (∀ i, i < nl → ∀ k, k ≠ 2 → mI M' (la i) k = mI M (la i) k) ∧ (∀ i, i < nl → un τ 15 (ln i) < u → mI M' (la i) 2 = nI (ltN τ (ln i))) ∧ (∀ i, i < nl → u ≤ un τ 15 (ln i) → mI M' (la i) 2 = mI M (la i) 2) ∧ ∃ x, v = some (.int x) ∧ (u < 720 → x = nI (leftN τ p u)))) ar ss 0 0 (gA G)) 13 M1 0 0 70 [(0, .ref (h 0)), (1, .int (nI u)), (2, .int (nI (un τ 18 18))), (3, .int (nI (un τ 19 19))), (4, .int (nI (un τ 20 20))), (5, .int (nI (if 30 * m = 360 then min (tkH τ p (30 * m) f) (un τ 19 19) else c))), (6, .int (nI (if 30 * m = 360 then 0 else (tkH τ p (30 * m) f)))), (7, .int (nI j)), (8, .int (nI m)), (9, .int (nI (30 * m)))] [] := by
              skip
              have jn83 : V pp l ee ({ frames := 4, cells := 0, slots := 0, locals := 86 } : Room) ss mm ar bw mt cd G (MQ bw (Ke G (fun v M' => frm (LaA nl la) M M' ∧ (∀ i, i < nl → ∀ k, k ≠ 2 → mI M' (la i) k = mI M (la i) k) ∧ (∀ i, i < nl → un τ 15 (ln i) < u → mI M' (la i) 2 = nI (ltN τ (ln i))) ∧ (∀ i, i < nl → u ≤ un τ 15 (ln i) → mI M' (la i) 2 = mI M (la i) 2) ∧ ∃ x, v = some (.int x) ∧ (u < 720 → x = nI (leftN τ p u)))) ar ss 0 0 (gA G)) 13 M1 0 0 83 [(0, .ref (h 0)), (1, .int (nI u)), (2, .int (nI (un τ 18 18))), (3, .int (nI (un τ 19 19))), (4, .int (nI (un τ 20 20))), (5, .int (nI ((tkD τ p (30 * m) (f, c)).2))), (6, .int (nI ((tkD τ p (30 * m) (f, c)).1))), (7, .int (nI j)), (8, .int (nI m)), (9, .int (nI (30 * m)))] [] := by
                skip
                refine r_iload_n C 1 dX8_takeLeave_83 rfl rfl ?_
                refine r_iload C 9 dX8_takeLeave_84 rfl ?_
                refine r_bipush C (v := nI 30) dX8_takeLeave_86 (by decide) ?_
                refine r_iaddN C dX8_takeLeave_88 ?_
                refine r_minIN C km_X8_87 (by omega) (by omega) (Nat.le_of_ble_eq_true rfl) (Nat.le_of_ble_eq_true rfl) (by first | exact Nat.zero_le _ | decide) (by first | exact Nat.zero_le _ | decide) dX8_takeLeave_89 ?_
                refine r_istore C (lo' := [(10, .int (nI (min u (30 * m + 30)))), (0, .ref (h 0)), (1, .int (nI u)), (2, .int (nI (un τ 18 18))), (3, .int (nI (un τ 19 19))), (4, .int (nI (un τ 20 20))), (5, .int (nI ((tkD τ p (30 * m) (f, c)).2))), (6, .int (nI ((tkD τ p (30 * m) (f, c)).1))), (7, .int (nI j)), (8, .int (nI m)), (9, .int (nI (30 * m)))]) dX8_takeLeave_92 (by decide) rfl ?_
                have lp94 : ∀ (k94 : Nat) (M2 : Mem) (j2 : Nat) (c2 : Nat) (f2 : Nat) (hb2 : f2 ≤ 36050 ∧ c2 ≤ 500) (hs2 : (f2, c2) = inS τ p nl ln m (min u (30 * m + 30)) j2) (hj2 : j2 ≤ nl ∧ (∀ i, i < j2 → un τ 15 (ln i) < min u (30 * m + 30)) ∧ ∀ i, j2 ≤ i → i < nl → 30 * m ≤ un τ 15 (ln i)) (htl2 : TLm τ nl ln la M j2 M2), nl + 1 - j2 < k94 → V pp l ee ({ frames := 4, cells := 0, slots := 0, locals := 86 } : Room) ss mm ar bw mt cd G (MQ bw (Ke G (fun v M' => frm (LaA nl la) M M' ∧ (∀ i, i < nl → ∀ k, k ≠ 2 → mI M' (la i) k = mI M (la i) k) ∧ (∀ i, i < nl → un τ 15 (ln i) < u → mI M' (la i) 2 = nI (ltN τ (ln i))) ∧ (∀ i, i < nl → u ≤ un τ 15 (ln i) → mI M' (la i) 2 = mI M (la i) 2) ∧ ∃ x, v = some (.int x) ∧ (u < 720 → x = nI (leftN τ p u)))) ar ss 0 0 (gA G)) 13 M2 0 0 94 [(0, .ref (h 0)), (1, .int (nI u)), (2, .int (nI (un τ 18 18))), (3, .int (nI (un τ 19 19))), (4, .int (nI (un τ 20 20))), (5, .int (nI c2)), (6, .int (nI f2)), (7, .int (nI j2)), (8, .int (nI m)), (10, .int (nI (min u (30 * m + 30))))] [] := by
                  intro k94
                  induction k94 with
                  | zero => intro M2 j2 c2 f2 hb2 hs2 hj2 htl2 hz94; exact absurd hz94 (Nat.not_lt_zero _)
                  | succ k94 ih94 =>
                    intro M2 j2 c2 f2 hb2 hs2 hj2 htl2 hz94
                    have htl := htl2
                    have hpc1 := hpc.fr htl2.1 (fun z => (hdj _ z).1 rfl) (fun i hi => ⟨fun z => (hdj _ z).2.2 i hi 0 (by decide) rfl, fun z => (hdj _ z).2.2 i hi 2 (by decide) rfl, fun z => (hdj _ z).2.2 i hi 4 (by decide) rfl⟩)
                    have hpl1 : PlL τ p G _ h nl ln la := ⟨hpl.1.fr htl2.1 (fun z => (hdj _ z).2.1 rfl), hpl.2.1, fun i hi => (htl.2.1 i hi 1 (by decide)).trans (hpl.2.2.1 i hi), hpl.2.2.2⟩
                    have hb := hbO |> htl2.1.blk
                    have hjl2 := hj2.1
                    refine r_iload C 7 dX8_takeLeave_94 rfl ?_
                    refine r_aload_n C 0 dX8_takeLeave_96 rfl rfl ?_
                    refine r_getR C (b := (h 2)) fl_X8_18 rfl (hb.k 0 11 rfl) (hb.r 0 2 2 rfl) dX8_takeLeave_97 ?_
                    refine r_callV C hgX (ci := 2) ml_X8_56 im_Jx4a65c_size_8abf5 se_Jx4a65c_size_8abf5 rfl rfl (hb.k 2 3 rfl) (c_Jx4a65c_size_8abf5 l hfl G M2 (h 2) nl (hpl1.1).1 (hpl1.1).2.1) rfl (Nat.le_of_ble_eq_true rfl) ⟨Nat.le_of_ble_eq_true rfl, Nat.le_of_ble_eq_true rfl⟩ ⟨Nat.le_of_ble_eq_true rfl, Nat.le_of_ble_eq_true rfl⟩ dX8_takeLeave_100 rfl ?_
                    rintro _ _ ⟨rfl, rfl⟩
                    refine V.eSt (st' := [.int (nI nl), .int (nI j2)]) rfl ?_
                    refine r_icmp_geN C (t := 200) (by omega) (by omega) dX8_takeLeave_103 (by decide) (fun c103 => ?_) (fun c103 => ?_)
                    · skip
                      have hx : ¬ (j2 < nl ∧ un τ 15 (ln j2) < min u (30 * m + 30)) := fun z => by omega
                      refine r_iinc C (v := nI (m + 1)) (lo' := [(8, .int (nI (m + 1))), (0, .ref (h 0)), (1, .int (nI u)), (2, .int (nI (un τ 18 18))), (3, .int (nI (un τ 19 19))), (4, .int (nI (un τ 20 20))), (5, .int (nI c2)), (6, .int (nI f2)), (7, .int (nI j2)), (10, .int (nI (min u (30 * m + 30))))]) 8 dX8_takeLeave_200 rfl (nI_addI m 1) (by decide) rfl ?_
                      refine r_goto C (t := 12) dX8_takeLeave_203 (by decide) ?_
                      refine V.sub [1, 2, 3, 4, 5, 6, 7, 8, 0] (lo' := [(0, .ref (h 0)), (1, .int (nI u)), (2, .int (nI (un τ 18 18))), (3, .int (nI (un τ 19 19))), (4, .int (nI (un τ 20 20))), (5, .int (nI c2)), (6, .int (nI f2)), (7, .int (nI j2)), (8, .int (nI (m + 1)))]) rfl ?_
                      exact ih12 M2 (m + 1) c2 f2 j2 (by omega) hb2 (in_end (by omega) (by omega) hx hs2) (⟨hj2.1, fun i z => by have := hj2.2.1 i z; omega, fun i z1 z2 => by have := day_ge hpl.2.1 hx i z1 z2; omega⟩) htl2 (by omega)
                    · skip
                      have hld := (hw.ld (ln j2) (hpl.2.1.1 j2 (by omega)).1).1.2
                      refine r_aload_n C 0 dX8_takeLeave_106 rfl rfl ?_
                      refine r_getR C (b := (h 2)) fl_X8_18 rfl (hb.k 0 11 rfl) (hb.r 0 2 2 rfl) dX8_takeLeave_107 ?_
                      refine r_iload C 7 dX8_takeLeave_110 rfl ?_
                      obtain ⟨d_, hd_, hkd_, hsn_, hn_, hri_⟩ := (hpl1.1).get (i := j2) (by omega)
                      refine r_callV C hgX (ci := 2) ml_X8_60 im_Jx4a65c_get_915e3 se_Jx4a65c_get_915e3 rfl rfl (hb.k 2 3 rfl) (c_Jx4a65c_get_915e3 l hfl G M2 (h 2) d_ _ j2 (la j2) nl (hpl1.1).1 hd_ (hpl1.1).2.1 hkd_ rfl hn_ hsn_ (by omega) hri_) rfl (Nat.le_of_ble_eq_true rfl) ⟨Nat.le_of_ble_eq_true rfl, Nat.le_of_ble_eq_true rfl⟩ ⟨Nat.le_of_ble_eq_true rfl, Nat.le_of_ble_eq_true rfl⟩ dX8_takeLeave_112 rfl ?_
                      rintro _ _ ⟨rfl, rfl⟩
                      refine V.eSt (st' := [.ref (la j2)]) rfl ?_
                      refine r_cast C (ci := 8) rfl cl_X8_70 ((hpl1.1.2.2.1 j2 (by omega))) dX8_takeLeave_115 ?_
                      refine r_getI C fl_X8_72 rfl (hpl1.1.2.2.1 j2 (by omega)) dX8_takeLeave_118 ?_
                      refine V.ei (y := nI (un τ 15 (ln j2))) ((hpl1.2.2.1 j2 (by omega))) ?_
                      refine r_iload C 9 dX8_takeLeave_121 rfl ?_
                      refine r_icmp_geN C (t := 200) (by omega) (by omega) dX8_takeLeave_123 (by decide) (fun c123 => ?_) (fun c123 => ?_)
                      · skip
                        have hx : ¬ (j2 < nl ∧ un τ 15 (ln j2) < min u (30 * m + 30)) := fun z => by omega
                        refine r_iinc C (v := nI (m + 1)) (lo' := [(8, .int (nI (m + 1))), (0, .ref (h 0)), (1, .int (nI u)), (2, .int (nI (un τ 18 18))), (3, .int (nI (un τ 19 19))), (4, .int (nI (un τ 20 20))), (5, .int (nI c2)), (6, .int (nI f2)), (7, .int (nI j2)), (10, .int (nI (min u (30 * m + 30))))]) 8 dX8_takeLeave_200 rfl (nI_addI m 1) (by decide) rfl ?_
                        refine r_goto C (t := 12) dX8_takeLeave_203 (by decide) ?_
                        refine V.sub [1, 2, 3, 4, 5, 6, 7, 8, 0] (lo' := [(0, .ref (h 0)), (1, .int (nI u)), (2, .int (nI (un τ 18 18))), (3, .int (nI (un τ 19 19))), (4, .int (nI (un τ 20 20))), (5, .int (nI c2)), (6, .int (nI f2)), (7, .int (nI j2)), (8, .int (nI (m + 1)))]) rfl ?_
                        exact ih12 M2 (m + 1) c2 f2 j2 (by omega) hb2 (in_end (by omega) (by omega) hx hs2) (⟨hj2.1, fun i z => by have := hj2.2.1 i z; omega, fun i z1 z2 => by have := day_ge hpl.2.1 hx i z1 z2; omega⟩) htl2 (by omega)
                      · skip
                        have hge := hj2.2.2 j2 (Nat.le_refl _) (by omega)
                        have hit := in_take hpl.2.1 (show j2 < nl by omega) hge (by omega) (by omega) hs2
                        have hj3 : j2 + 1 ≤ nl ∧ (∀ i, i < j2 + 1 → un τ 15 (ln i) < min u (30 * m + 30)) ∧ ∀ i, j2 + 1 ≤ i → i < nl → 30 * m ≤ un τ 15 (ln i) := ⟨by omega, fun i z => by by_cases e : i = j2; (subst e; omega); exact hj2.2.1 i (by omega), fun i z1 z2 => hj2.2.2 i (by omega) z2⟩
                        refine r_aload_n C 0 dX8_takeLeave_126 rfl rfl ?_
                        refine r_getR C (b := (h 2)) fl_X8_18 rfl (hb.k 0 11 rfl) (hb.r 0 2 2 rfl) dX8_takeLeave_127 ?_
                        refine r_iload C 7 dX8_takeLeave_130 rfl ?_
                        obtain ⟨d_b, hd_b, hkd_b, hsn_b, hn_b, hri_b⟩ := (hpl1.1).get (i := j2) (by omega)
                        refine r_callV C hgX (ci := 2) ml_X8_60 im_Jx4a65c_get_915e3 se_Jx4a65c_get_915e3 rfl rfl (hb.k 2 3 rfl) (c_Jx4a65c_get_915e3 l hfl G M2 (h 2) d_b _ j2 (la j2) nl (hpl1.1).1 hd_b (hpl1.1).2.1 hkd_b rfl hn_b hsn_b (by omega) hri_b) rfl (Nat.le_of_ble_eq_true rfl) ⟨Nat.le_of_ble_eq_true rfl, Nat.le_of_ble_eq_true rfl⟩ ⟨Nat.le_of_ble_eq_true rfl, Nat.le_of_ble_eq_true rfl⟩ dX8_takeLeave_132 rfl ?_
                        rintro _ _ ⟨rfl, rfl⟩
                        refine V.eSt (st' := [.ref (la j2)]) rfl ?_
                        refine r_cast C (ci := 8) rfl cl_X8_70 ((hpl1.1.2.2.1 j2 (by omega))) dX8_takeLeave_135 ?_
                        refine r_astore C (lo' := [(11, .ref (la j2)), (0, .ref (h 0)), (1, .int (nI u)), (2, .int (nI (un τ 18 18))), (3, .int (nI (un τ 19 19))), (4, .int (nI (un τ 20 20))), (5, .int (nI c2)), (6, .int (nI f2)), (7, .int (nI j2)), (8, .int (nI m)), (10, .int (nI (min u (30 * m + 30))))]) dX8_takeLeave_138 (by decide) rfl ?_
                        refine r_aload C 0 dX8_takeLeave_140 rfl ?_
                        have jn157 : V pp l ee ({ frames := 4, cells := 0, slots := 0, locals := 86 } : Room) ss mm ar bw mt cd G (MQ bw (Ke G (fun v M' => frm (LaA nl la) M M' ∧ (∀ i, i < nl → ∀ k, k ≠ 2 → mI M' (la i) k = mI M (la i) k) ∧ (∀ i, i < nl → un τ 15 (ln i) < u → mI M' (la i) 2 = nI (ltN τ (ln i))) ∧ (∀ i, i < nl → u ≤ un τ 15 (ln i) → mI M' (la i) 2 = mI M (la i) 2) ∧ ∃ x, v = some (.int x) ∧ (u < 720 → x = nI (leftN τ p u)))) ar ss 0 0 (gA G)) 13 M2 0 0 157 [(11, .ref (la j2)), (0, .ref (h 0)), (1, .int (nI u)), (2, .int (nI (un τ 18 18))), (3, .int (nI (un τ 19 19))), (4, .int (nI (un τ 20 20))), (5, .int (nI c2)), (6, .int (nI f2)), (7, .int (nI j2)), (8, .int (nI m)), (10, .int (nI (min u (30 * m + 30))))] [.int (nI (ltN τ (ln j2))), .ref (la j2)] := by
                          skip
                          refine r_putZ C fl_X8_93 (lt01 _ _) (hpl1.1.2.2.1 j2 (by omega)) dX8_takeLeave_157 ?_
                          refine r_aload C 0 dX8_takeLeave_160 rfl ?_
                          refine r_getI C fl_X8_93 rfl (show mK (wI M2 (la j2) 2 (nI (ltN τ (ln j2)))) (la j2) = 8 + 1 from hpl1.1.2.2.1 j2 (by omega)) dX8_takeLeave_162 ?_
                          refine V.ei (y := nI (ltN τ (ln j2))) (wI_i) ?_
                          refine r_if_eqN C (t := 194) (by have := ltN_le τ (ln j2); omega) dX8_takeLeave_165 (by decide) (fun c165 => ?_) (fun c165 => ?_)
                          · skip
                            have hn10 : ¬ 10 ≤ c2 + f2 := fun z => by rw [hit.1, if_pos z] at c165; omega
                            refine r_iinc C (v := nI (j2 + 1)) (lo' := [(7, .int (nI (j2 + 1))), (11, .ref (la j2)), (0, .ref (h 0)), (1, .int (nI u)), (2, .int (nI (un τ 18 18))), (3, .int (nI (un τ 19 19))), (4, .int (nI (un τ 20 20))), (5, .int (nI c2)), (6, .int (nI f2)), (8, .int (nI m)), (10, .int (nI (min u (30 * m + 30))))]) 8 dX8_takeLeave_194 rfl (nI_addI j2 1) (by decide) rfl ?_
                            refine r_goto C (t := 94) dX8_takeLeave_197 (by decide) ?_
                            refine V.sub [2, 3, 4, 5, 6, 7, 8, 0, 9, 10] (lo' := [(0, .ref (h 0)), (1, .int (nI u)), (2, .int (nI (un τ 18 18))), (3, .int (nI (un τ 19 19))), (4, .int (nI (un τ 20 20))), (5, .int (nI c2)), (6, .int (nI f2)), (7, .int (nI (j2 + 1))), (8, .int (nI m)), (10, .int (nI (min u (30 * m + 30))))]) rfl ?_
                            exact ih94 (wI M2 (la j2) 2 (nI (ltN τ (ln j2)))) (j2 + 1) c2 f2 hb2 (hit.2.1 (by omega)) hj3 (htl2.step (by omega) hpl.2.2.2) (by omega)
                          · skip
                            have hn10 : 10 ≤ c2 + f2 := Classical.byContradiction (fun z => by rw [hit.1, if_neg z] at c165; omega)
                            refine r_iload C 6 dX8_takeLeave_168 rfl ?_
                            refine r_bipush C (v := nI 10) dX8_takeLeave_170 (by decide) ?_
                            refine r_minIN C km_X8_87 (by omega) (by omega) (Nat.le_of_ble_eq_true rfl) (Nat.le_of_ble_eq_true rfl) (by first | exact Nat.zero_le _ | decide) (by first | exact Nat.zero_le _ | decide) dX8_takeLeave_172 ?_
                            refine r_istore C (lo' := [(12, .int (nI (min c2 10))), (11, .ref (la j2)), (0, .ref (h 0)), (1, .int (nI u)), (2, .int (nI (un τ 18 18))), (3, .int (nI (un τ 19 19))), (4, .int (nI (un τ 20 20))), (5, .int (nI c2)), (6, .int (nI f2)), (7, .int (nI j2)), (8, .int (nI m)), (10, .int (nI (min u (30 * m + 30))))]) dX8_takeLeave_175 (by decide) rfl ?_
                            refine r_iload C 7 dX8_takeLeave_177 rfl ?_
                            refine r_iload C 0 dX8_takeLeave_179 rfl ?_
                            refine r_isubN C (by omega) dX8_takeLeave_181 ?_
                            refine r_istore C (lo' := [(5, .int (nI (c2 - (min c2 10)))), (12, .int (nI (min c2 10))), (11, .ref (la j2)), (0, .ref (h 0)), (1, .int (nI u)), (2, .int (nI (un τ 18 18))), (3, .int (nI (un τ 19 19))), (4, .int (nI (un τ 20 20))), (6, .int (nI f2)), (7, .int (nI j2)), (8, .int (nI m)), (10, .int (nI (min u (30 * m + 30))))]) dX8_takeLeave_182 (by decide) rfl ?_
                            refine r_iload C 8 dX8_takeLeave_184 rfl ?_
                            refine r_bipush C (v := nI 10) dX8_takeLeave_186 (by decide) ?_
                            refine r_iload C 1 dX8_takeLeave_188 rfl ?_
                            refine r_isubN C (by omega) dX8_takeLeave_190 ?_
                            refine r_isubN C (by omega) dX8_takeLeave_191 ?_
                            refine r_istore C (lo' := [(6, .int (nI (f2 - (10 - (min c2 10))))), (5, .int (nI (c2 - (min c2 10)))), (12, .int (nI (min c2 10))), (11, .ref (la j2)), (0, .ref (h 0)), (1, .int (nI u)), (2, .int (nI (un τ 18 18))), (3, .int (nI (un τ 19 19))), (4, .int (nI (un τ 20 20))), (7, .int (nI j2)), (8, .int (nI m)), (10, .int (nI (min u (30 * m + 30))))]) dX8_takeLeave_192 (by decide) rfl ?_
                            refine r_iinc C (v := nI (j2 + 1)) (lo' := [(7, .int (nI (j2 + 1))), (6, .int (nI (f2 - (10 - (min c2 10))))), (5, .int (nI (c2 - (min c2 10)))), (12, .int (nI (min c2 10))), (11, .ref (la j2)), (0, .ref (h 0)), (1, .int (nI u)), (2, .int (nI (un τ 18 18))), (3, .int (nI (un τ 19 19))), (4, .int (nI (un τ 20 20))), (8, .int (nI m)), (10, .int (nI (min u (30 * m + 30))))]) 9 dX8_takeLeave_194 rfl (nI_addI j2 1) (by decide) rfl ?_
                            refine r_goto C (t := 94) dX8_takeLeave_197 (by decide) ?_
                            refine V.sub [5, 6, 7, 8, 9, 2, 1, 0, 10, 11] (lo' := [(0, .ref (h 0)), (1, .int (nI u)), (2, .int (nI (un τ 18 18))), (3, .int (nI (un τ 19 19))), (4, .int (nI (un τ 20 20))), (5, .int (nI (c2 - (min c2 10)))), (6, .int (nI (f2 - (10 - (min c2 10))))), (7, .int (nI (j2 + 1))), (8, .int (nI m)), (10, .int (nI (min u (30 * m + 30))))]) rfl ?_
                            exact ih94 (wI M2 (la j2) 2 (nI (ltN τ (ln j2)))) (j2 + 1) (c2 - min c2 10) (f2 - (10 - min c2 10)) (⟨by omega, by omega⟩) (hit.2.2 (by omega)) hj3 (htl2.step (by omega) hpl.2.2.2) (by omega)
                        refine r_iload C 6 dX8_takeLeave_142 rfl ?_
                        refine r_iload C 7 dX8_takeLeave_144 rfl ?_
                        refine r_iaddN C dX8_takeLeave_146 ?_
                        refine r_bipush C (v := nI 10) dX8_takeLeave_147 (by decide) ?_
                        refine r_icmp_ltN C (t := 156) (by omega) (by omega) dX8_takeLeave_149 (by decide) (fun c149 => ?_) (fun c149 => ?_)
                        · skip
                          refine r_iconst C (v := nI 0) dX8_takeLeave_156 (by decide) ?_
                          refine V.ei (y := nI (ltN τ (ln j2))) (congrArg nI (by rw [hit.1, if_neg (by omega)])) ?_
                          exact jn157
                        · skip
                          refine r_iconst C (v := nI 1) dX8_takeLeave_152 (by decide) ?_
                          refine r_goto C (t := 157) dX8_takeLeave_153 (by decide) ?_
                          refine V.ei (y := nI (ltN τ (ln j2))) (congrArg nI (by rw [hit.1, if_pos (by omega)])) ?_
                          exact jn157
                refine V.sub [1, 2, 3, 4, 5, 6, 7, 8, 9, 0] (lo' := [(0, .ref (h 0)), (1, .int (nI u)), (2, .int (nI (un τ 18 18))), (3, .int (nI (un τ 19 19))), (4, .int (nI (un τ 20 20))), (5, .int (nI ((tkD τ p (30 * m) (f, c)).2))), (6, .int (nI ((tkD τ p (30 * m) (f, c)).1))), (7, .int (nI j)), (8, .int (nI m)), (10, .int (nI (min u (30 * m + 30))))]) rfl ?_
                exact lp94 _ M1 j ((tkD τ p (30 * m) (f, c)).2) ((tkD τ p (30 * m) (f, c)).1) (⟨by have := htd.1; have h1 := (tk_le hw p (30 * m)).1; rw [hst1] at h1; have h2 : f ≤ 50 * (30 * m) := h1; have h3 : (f, c).1 = f := rfl; omega, by have := htd.2; have h3 : (f, c).2 = c := rfl; omega⟩) (inS_0 hpl.2.1 (by omega) hst1 (fun i z => by have := hj.2.1 i z; omega) (fun i z1 z2 => by have := hj.2.2 i z1 z2; omega)) (⟨hj.1, fun i z => by have := hj.2.1 i z; omega, fun i z1 z2 => by have := hj.2.2 i z1 z2; omega⟩) htl (Nat.lt_succ_self _)
              refine r_iload C 8 dX8_takeLeave_70 rfl ?_
              refine r_bipush C (v := nI 12) dX8_takeLeave_72 (by decide) ?_
              refine r_iload C 4 dX8_takeLeave_74 rfl ?_
              refine r_iaddN C dX8_takeLeave_76 ?_
              refine r_icmp_neN C (t := 83) (by omega) (by omega) dX8_takeLeave_77 (by decide) (fun c77 => ?_) (fun c77 => ?_)
              · skip
                refine V.sub [0, 1, 2, 3, 4, 5, 6, 7, 8, 9] (lo' := [(0, .ref (h 0)), (1, .int (nI u)), (2, .int (nI (un τ 18 18))), (3, .int (nI (un τ 19 19))), (4, .int (nI (un τ 20 20))), (5, .int (nI (if 30 * m = 360 then min (tkH τ p (30 * m) f) (un τ 19 19) else c))), (6, .int (nI (if 30 * m = 360 then 0 else (tkH τ p (30 * m) f)))), (7, .int (nI j)), (8, .int (nI m)), (9, .int (nI (30 * m)))]) rfl ?_
                have jl5 : ((if 30 * m = 360 then min (tkH τ p (30 * m) f) (un τ 19 19) else c)) = ((tkD τ p (30 * m) (f, c)).2) := by show _ = (if 30 * m = 30 * (12 + un τ 20 20) then 0 else if 30 * m = 360 then min (tkH τ p (30 * m) f) (un τ 19 19) else c); rw [if_neg (show ¬ 30 * m = 30 * (12 + un τ 20 20) by omega)]
                refine V.eLo (lo' := [(0, .ref (h 0)), (1, .int (nI u)), (2, .int (nI (un τ 18 18))), (3, .int (nI (un τ 19 19))), (4, .int (nI (un τ 20 20))), (5, .int (nI ((tkD τ p (30 * m) (f, c)).2))), (6, .int (nI (if 30 * m = 360 then 0 else (tkH τ p (30 * m) f)))), (7, .int (nI j)), (8, .int (nI m)), (9, .int (nI (30 * m)))]) (congrArg (fun z_ => ([(0, .ref (h 0)), (1, .int (nI u)), (2, .int (nI (un τ 18 18))), (3, .int (nI (un τ 19 19))), (4, .int (nI (un τ 20 20))), (5, .int (nI z_)), (6, .int (nI (if 30 * m = 360 then 0 else (tkH τ p (30 * m) f)))), (7, .int (nI j)), (8, .int (nI m)), (9, .int (nI (30 * m)))] : List (Nat × Value))) jl5) ?_
                have jl6 : ((if 30 * m = 360 then 0 else (tkH τ p (30 * m) f))) = ((tkD τ p (30 * m) (f, c)).1) := by rfl
                refine V.eLo (lo' := [(0, .ref (h 0)), (1, .int (nI u)), (2, .int (nI (un τ 18 18))), (3, .int (nI (un τ 19 19))), (4, .int (nI (un τ 20 20))), (5, .int (nI ((tkD τ p (30 * m) (f, c)).2))), (6, .int (nI ((tkD τ p (30 * m) (f, c)).1))), (7, .int (nI j)), (8, .int (nI m)), (9, .int (nI (30 * m)))]) (congrArg (fun z_ => ([(0, .ref (h 0)), (1, .int (nI u)), (2, .int (nI (un τ 18 18))), (3, .int (nI (un τ 19 19))), (4, .int (nI (un τ 20 20))), (5, .int (nI ((tkD τ p (30 * m) (f, c)).2))), (6, .int (nI z_)), (7, .int (nI j)), (8, .int (nI m)), (9, .int (nI (30 * m)))] : List (Nat × Value))) jl6) ?_
                exact jn83
              · skip
                refine r_iconst C (v := nI 0) dX8_takeLeave_80 (by decide) ?_
                refine r_istore C (lo' := [(5, .int (nI 0)), (0, .ref (h 0)), (1, .int (nI u)), (2, .int (nI (un τ 18 18))), (3, .int (nI (un τ 19 19))), (4, .int (nI (un τ 20 20))), (6, .int (nI (if 30 * m = 360 then 0 else (tkH τ p (30 * m) f)))), (7, .int (nI j)), (8, .int (nI m)), (9, .int (nI (30 * m)))]) dX8_takeLeave_81 (by decide) rfl ?_
                refine V.sub [1, 2, 3, 4, 5, 0, 6, 7, 8, 9] (lo' := [(0, .ref (h 0)), (1, .int (nI u)), (2, .int (nI (un τ 18 18))), (3, .int (nI (un τ 19 19))), (4, .int (nI (un τ 20 20))), (5, .int (nI 0)), (6, .int (nI (if 30 * m = 360 then 0 else (tkH τ p (30 * m) f)))), (7, .int (nI j)), (8, .int (nI m)), (9, .int (nI (30 * m)))]) rfl ?_
                have jl5 : (0) = ((tkD τ p (30 * m) (f, c)).2) := by show _ = (if 30 * m = 30 * (12 + un τ 20 20) then 0 else if 30 * m = 360 then min (tkH τ p (30 * m) f) (un τ 19 19) else c); rw [if_pos (show 30 * m = 30 * (12 + un τ 20 20) by omega)]
                refine V.eLo (lo' := [(0, .ref (h 0)), (1, .int (nI u)), (2, .int (nI (un τ 18 18))), (3, .int (nI (un τ 19 19))), (4, .int (nI (un τ 20 20))), (5, .int (nI ((tkD τ p (30 * m) (f, c)).2))), (6, .int (nI (if 30 * m = 360 then 0 else (tkH τ p (30 * m) f)))), (7, .int (nI j)), (8, .int (nI m)), (9, .int (nI (30 * m)))]) (congrArg (fun z_ => ([(0, .ref (h 0)), (1, .int (nI u)), (2, .int (nI (un τ 18 18))), (3, .int (nI (un τ 19 19))), (4, .int (nI (un τ 20 20))), (5, .int (nI z_)), (6, .int (nI (if 30 * m = 360 then 0 else (tkH τ p (30 * m) f)))), (7, .int (nI j)), (8, .int (nI m)), (9, .int (nI (30 * m)))] : List (Nat × Value))) jl5) ?_
                have jl6 : ((if 30 * m = 360 then 0 else (tkH τ p (30 * m) f))) = ((tkD τ p (30 * m) (f, c)).1) := by rfl
                refine V.eLo (lo' := [(0, .ref (h 0)), (1, .int (nI u)), (2, .int (nI (un τ 18 18))), (3, .int (nI (un τ 19 19))), (4, .int (nI (un τ 20 20))), (5, .int (nI ((tkD τ p (30 * m) (f, c)).2))), (6, .int (nI ((tkD τ p (30 * m) (f, c)).1))), (7, .int (nI j)), (8, .int (nI m)), (9, .int (nI (30 * m)))]) (congrArg (fun z_ => ([(0, .ref (h 0)), (1, .int (nI u)), (2, .int (nI (un τ 18 18))), (3, .int (nI (un τ 19 19))), (4, .int (nI (un τ 20 20))), (5, .int (nI ((tkD τ p (30 * m) (f, c)).2))), (6, .int (nI z_)), (7, .int (nI j)), (8, .int (nI m)), (9, .int (nI (30 * m)))] : List (Nat × Value))) jl6) ?_
                exact jn83
            refine r_iload C 8 dX8_takeLeave_52 rfl ?_
            refine r_bipush C (v := nI 12) dX8_takeLeave_54 (by decide) ?_
            refine r_icmp_neN C (t := 70) (by omega) (by omega) dX8_takeLeave_56 (by decide) (fun c56 => ?_) (fun c56 => ?_)
            · skip
              refine V.sub [0, 1, 2, 3, 4, 5, 6, 7, 8, 9] (lo' := [(0, .ref (h 0)), (1, .int (nI u)), (2, .int (nI (un τ 18 18))), (3, .int (nI (un τ 19 19))), (4, .int (nI (un τ 20 20))), (5, .int (nI c)), (6, .int (nI (tkH τ p (30 * m) f))), (7, .int (nI j)), (8, .int (nI m)), (9, .int (nI (30 * m)))]) rfl ?_
              have jl5 : (c) = ((if 30 * m = 360 then min (tkH τ p (30 * m) f) (un τ 19 19) else c)) := by rw [if_neg (show ¬ 30 * m = 360 by omega)]
              refine V.eLo (lo' := [(0, .ref (h 0)), (1, .int (nI u)), (2, .int (nI (un τ 18 18))), (3, .int (nI (un τ 19 19))), (4, .int (nI (un τ 20 20))), (5, .int (nI (if 30 * m = 360 then min (tkH τ p (30 * m) f) (un τ 19 19) else c))), (6, .int (nI (tkH τ p (30 * m) f))), (7, .int (nI j)), (8, .int (nI m)), (9, .int (nI (30 * m)))]) (congrArg (fun z_ => ([(0, .ref (h 0)), (1, .int (nI u)), (2, .int (nI (un τ 18 18))), (3, .int (nI (un τ 19 19))), (4, .int (nI (un τ 20 20))), (5, .int (nI z_)), (6, .int (nI (tkH τ p (30 * m) f))), (7, .int (nI j)), (8, .int (nI m)), (9, .int (nI (30 * m)))] : List (Nat × Value))) jl5) ?_
              have jl6 : ((tkH τ p (30 * m) f)) = ((if 30 * m = 360 then 0 else (tkH τ p (30 * m) f))) := by rw [if_neg (show ¬ 30 * m = 360 by omega)]
              refine V.eLo (lo' := [(0, .ref (h 0)), (1, .int (nI u)), (2, .int (nI (un τ 18 18))), (3, .int (nI (un τ 19 19))), (4, .int (nI (un τ 20 20))), (5, .int (nI (if 30 * m = 360 then min (tkH τ p (30 * m) f) (un τ 19 19) else c))), (6, .int (nI (if 30 * m = 360 then 0 else (tkH τ p (30 * m) f)))), (7, .int (nI j)), (8, .int (nI m)), (9, .int (nI (30 * m)))]) (congrArg (fun z_ => ([(0, .ref (h 0)), (1, .int (nI u)), (2, .int (nI (un τ 18 18))), (3, .int (nI (un τ 19 19))), (4, .int (nI (un τ 20 20))), (5, .int (nI (if 30 * m = 360 then min (tkH τ p (30 * m) f) (un τ 19 19) else c))), (6, .int (nI z_)), (7, .int (nI j)), (8, .int (nI m)), (9, .int (nI (30 * m)))] : List (Nat × Value))) jl6) ?_
              exact jn70
            · skip
              refine r_iload C 6 dX8_takeLeave_59 rfl ?_
              refine r_iload_n C 3 dX8_takeLeave_61 rfl rfl ?_
              refine r_minIN C km_X8_87 (by have : tkH τ p (30 * m) f ≤ f + 50 := (by unfold tkH; split <;> omega); omega) (by omega) (Nat.le_of_ble_eq_true rfl) (Nat.le_of_ble_eq_true rfl) (by first | exact Nat.zero_le _ | decide) (by first | exact Nat.zero_le _ | decide) dX8_takeLeave_62 ?_
              refine r_istore C (lo' := [(5, .int (nI (min (tkH τ p (30 * m) f) (un τ 19 19)))), (0, .ref (h 0)), (1, .int (nI u)), (2, .int (nI (un τ 18 18))), (3, .int (nI (un τ 19 19))), (4, .int (nI (un τ 20 20))), (6, .int (nI (tkH τ p (30 * m) f))), (7, .int (nI j)), (8, .int (nI m)), (9, .int (nI (30 * m)))]) dX8_takeLeave_65 (by decide) rfl ?_
              refine r_iconst C (v := nI 0) dX8_takeLeave_67 (by decide) ?_
              refine r_istore C (lo' := [(6, .int (nI 0)), (5, .int (nI (min (tkH τ p (30 * m) f) (un τ 19 19)))), (0, .ref (h 0)), (1, .int (nI u)), (2, .int (nI (un τ 18 18))), (3, .int (nI (un τ 19 19))), (4, .int (nI (un τ 20 20))), (7, .int (nI j)), (8, .int (nI m)), (9, .int (nI (30 * m)))]) dX8_takeLeave_68 (by decide) rfl ?_
              refine V.sub [2, 3, 4, 5, 6, 1, 0, 7, 8, 9] (lo' := [(0, .ref (h 0)), (1, .int (nI u)), (2, .int (nI (un τ 18 18))), (3, .int (nI (un τ 19 19))), (4, .int (nI (un τ 20 20))), (5, .int (nI (min (tkH τ p (30 * m) f) (un τ 19 19)))), (6, .int (nI 0)), (7, .int (nI j)), (8, .int (nI m)), (9, .int (nI (30 * m)))]) rfl ?_
              have jl5 : (min (tkH τ p (30 * m) f) (un τ 19 19)) = ((if 30 * m = 360 then min (tkH τ p (30 * m) f) (un τ 19 19) else c)) := by rw [if_pos (show 30 * m = 360 by omega)]
              refine V.eLo (lo' := [(0, .ref (h 0)), (1, .int (nI u)), (2, .int (nI (un τ 18 18))), (3, .int (nI (un τ 19 19))), (4, .int (nI (un τ 20 20))), (5, .int (nI (if 30 * m = 360 then min (tkH τ p (30 * m) f) (un τ 19 19) else c))), (6, .int (nI 0)), (7, .int (nI j)), (8, .int (nI m)), (9, .int (nI (30 * m)))]) (congrArg (fun z_ => ([(0, .ref (h 0)), (1, .int (nI u)), (2, .int (nI (un τ 18 18))), (3, .int (nI (un τ 19 19))), (4, .int (nI (un τ 20 20))), (5, .int (nI z_)), (6, .int (nI 0)), (7, .int (nI j)), (8, .int (nI m)), (9, .int (nI (30 * m)))] : List (Nat × Value))) jl5) ?_
              have jl6 : (0) = ((if 30 * m = 360 then 0 else (tkH τ p (30 * m) f))) := by rw [if_pos (show 30 * m = 360 by omega)]
              refine V.eLo (lo' := [(0, .ref (h 0)), (1, .int (nI u)), (2, .int (nI (un τ 18 18))), (3, .int (nI (un τ 19 19))), (4, .int (nI (un τ 20 20))), (5, .int (nI (if 30 * m = 360 then min (tkH τ p (30 * m) f) (un τ 19 19) else c))), (6, .int (nI (if 30 * m = 360 then 0 else (tkH τ p (30 * m) f)))), (7, .int (nI j)), (8, .int (nI m)), (9, .int (nI (30 * m)))]) (congrArg (fun z_ => ([(0, .ref (h 0)), (1, .int (nI u)), (2, .int (nI (un τ 18 18))), (3, .int (nI (un τ 19 19))), (4, .int (nI (un τ 20 20))), (5, .int (nI (if 30 * m = 360 then min (tkH τ p (30 * m) f) (un τ 19 19) else c))), (6, .int (nI z_)), (7, .int (nI j)), (8, .int (nI m)), (9, .int (nI (30 * m)))] : List (Nat × Value))) jl6) ?_
              exact jn70
          refine r_aload_n C 1 dX8_takeLeave_35 rfl rfl ?_
          refine r_iload C 0 dX8_takeLeave_36 rfl ?_
          refine r_iconst C (v := nI 1) dX8_takeLeave_38 (by decide) ?_
          refine r_isub C dX8_takeLeave_39 ?_
          refine r_callV C hgX (ci := 10) ml_X8_84 im_X8_worksOn se_X8_worksOn rfl rfl (hb.k 0 11 rfl) (c_X8_worksOn l hfl G M1 h hb τ hw p nc cn fc hpc1 ((nI (30 * m)) - (nI 1))) rfl (Nat.le_of_ble_eq_true rfl) ⟨Nat.le_of_ble_eq_true rfl, Nat.le_of_ble_eq_true rfl⟩ ⟨Nat.le_of_ble_eq_true rfl, Nat.le_of_ble_eq_true rfl⟩ dX8_takeLeave_40 rfl ?_
          rintro _ _ ⟨rfl, rfl⟩
          refine V.eSt (st' := [.int (bI (anyN (fun i => cvB τ (cn i) (nI (30 * m) - nI 1)) nc))]) rfl ?_
          refine V.ei (y := bI (decide (0 < m) && worksB τ p (30 * m - 1))) (congrArg bI (wk_eq hpc.2.1 (by omega))) ?_
          refine r_if_eqB C (t := 52) dX8_takeLeave_43 (by decide) (fun c43 => ?_) (fun c43 => ?_)
          · skip
            refine V.sub [1, 2, 3, 4, 5, 6, 7, 8, 9, 0] (lo' := [(0, .ref (h 0)), (1, .int (nI u)), (2, .int (nI (un τ 18 18))), (3, .int (nI (un τ 19 19))), (4, .int (nI (un τ 20 20))), (5, .int (nI c)), (6, .int (nI f)), (7, .int (nI j)), (8, .int (nI m)), (9, .int (nI (30 * m)))]) rfl ?_
            have jl6 : (f) = ((tkH τ p (30 * m) f)) := by exact tkH_f c43
            refine V.eLo (lo' := [(0, .ref (h 0)), (1, .int (nI u)), (2, .int (nI (un τ 18 18))), (3, .int (nI (un τ 19 19))), (4, .int (nI (un τ 20 20))), (5, .int (nI c)), (6, .int (nI (tkH τ p (30 * m) f))), (7, .int (nI j)), (8, .int (nI m)), (9, .int (nI (30 * m)))]) (congrArg (fun z_ => ([(0, .ref (h 0)), (1, .int (nI u)), (2, .int (nI (un τ 18 18))), (3, .int (nI (un τ 19 19))), (4, .int (nI (un τ 20 20))), (5, .int (nI c)), (6, .int (nI z_)), (7, .int (nI j)), (8, .int (nI m)), (9, .int (nI (30 * m)))] : List (Nat × Value))) jl6) ?_
            exact jn52
          · skip
            refine r_iload C 7 dX8_takeLeave_46 rfl ?_
            refine r_iload_n C 3 dX8_takeLeave_48 rfl rfl ?_
            refine r_iaddN C dX8_takeLeave_49 ?_
            refine r_istore C (lo' := [(6, .int (nI (f + un τ 18 18))), (9, .int (nI (30 * m))), (0, .ref (h 0)), (1, .int (nI u)), (2, .int (nI (un τ 18 18))), (3, .int (nI (un τ 19 19))), (4, .int (nI (un τ 20 20))), (5, .int (nI c)), (7, .int (nI j)), (8, .int (nI m))]) dX8_takeLeave_50 (by decide) rfl ?_
            refine V.sub [2, 3, 4, 5, 6, 7, 0, 8, 9, 1] (lo' := [(0, .ref (h 0)), (1, .int (nI u)), (2, .int (nI (un τ 18 18))), (3, .int (nI (un τ 19 19))), (4, .int (nI (un τ 20 20))), (5, .int (nI c)), (6, .int (nI (f + un τ 18 18))), (7, .int (nI j)), (8, .int (nI m)), (9, .int (nI (30 * m)))]) rfl ?_
            have jl6 : (f + un τ 18 18) = ((tkH τ p (30 * m) f)) := by exact tkH_t c43
            refine V.eLo (lo' := [(0, .ref (h 0)), (1, .int (nI u)), (2, .int (nI (un τ 18 18))), (3, .int (nI (un τ 19 19))), (4, .int (nI (un τ 20 20))), (5, .int (nI c)), (6, .int (nI (tkH τ p (30 * m) f))), (7, .int (nI j)), (8, .int (nI m)), (9, .int (nI (30 * m)))]) (congrArg (fun z_ => ([(0, .ref (h 0)), (1, .int (nI u)), (2, .int (nI (un τ 18 18))), (3, .int (nI (un τ 19 19))), (4, .int (nI (un τ 20 20))), (5, .int (nI c)), (6, .int (nI z_)), (7, .int (nI j)), (8, .int (nI m)), (9, .int (nI (30 * m)))] : List (Nat × Value))) jl6) ?_
            exact jn52
  refine V.sub [4, 5, 6, 7, 8, 3, 2, 1, 0] (lo' := [(0, .ref (h 0)), (1, .int (nI u)), (2, .int (nI (un τ 18 18))), (3, .int (nI (un τ 19 19))), (4, .int (nI (un τ 20 20))), (5, .int (nI 0)), (6, .int (nI 0)), (7, .int (nI 0)), (8, .int (nI 0))]) rfl ?_
  exact lp12 _ M 0 0 0 0 (Nat.zero_le _) (⟨Nat.zero_le _, Nat.zero_le _⟩) (⟨fun _ => rfl, fun z => absurd z (by omega)⟩) (⟨Nat.zero_le _, fun i z => absurd z (Nat.not_lt_zero _), fun i _ _ => by omega⟩) (⟨frm.rf _ _, fun _ _ _ _ => rfl, fun i z => absurd z (Nat.not_lt_zero _), fun _ _ _ => rfl⟩) (Nat.lt_succ_self _)

