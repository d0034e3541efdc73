/-! THE CLASS: elements in order -/
theorem rgK_or {τ : Mu} {c s i : Nat} : ∀ e, (rgK τ c s e).testBit i = true → s.testBit i = true ∨ ∃ x, x < e ∧ (rgK τ c s x).testBit x = true ∧ x ≠ c ∧ x < un τ 26 26 ∧ (needN τ x).testBit i = true
  | 0, h => .inl h
  | e + 1, h => by
    have h2 : (rgK τ c s e ||| (if (rgK τ c s e).testBit e = true ∧ e ≠ c ∧ e < un τ 26 26 then needN τ e else 0)).testBit i = true := h
    rw [Nat.testBit_or, Bool.or_eq_true] at h2
    rcases h2 with h2 | h2
    · rcases rgK_or e h2 with h3 | ⟨x, a1, a2⟩
      · exact .inl h3
      · exact .inr ⟨x, by omega, a2⟩
    · by_cases q : (rgK τ c s e).testBit e = true ∧ e ≠ c ∧ e < un τ 26 26
      · rw [if_pos q] at h2
        exact .inr ⟨e, by omega, q.1, q.2.1, q.2.2, h2⟩
      · rw [if_neg q, Nat.zero_testBit] at h2
        cases h2
/-- a round adds nothing to a set that is closed -/
theorem rgK_cl {τ : Mu} {c s : Nat} (h : ∀ x, s.testBit x = true → x ≠ c → x < un τ 26 26 → ∀ i, (needN τ x).testBit i = true → s.testBit i = true) : ∀ e, rgK τ c s e = s
  | 0 => rfl
  | e + 1 => by
    have ih := rgK_cl h e
    show rgK τ c s e ||| (if (rgK τ c s e).testBit e = true ∧ e ≠ c ∧ e < un τ 26 26 then needN τ e else 0) = s
    rw [ih]
    by_cases q : s.testBit e = true ∧ e ≠ c ∧ e < un τ 26 26
    · rw [if_pos q]
      apply Nat.eq_of_testBit_eq
      intro i
      rw [Nat.testBit_or]
      cases hs : s.testBit i with
      | true => rfl
      | false =>
        cases hn : (needN τ e).testBit i with
        | false => rfl
        | true => rw [h e q.1 q.2.1 q.2.2 i hn] at hs; cases hs
    · rw [if_neg q, Nat.or_zero]
theorem rg_grow {τ : Mu} (hw : WFe τ) {c : Nat} : ∀ r, rgR τ c (r + 1) = rgR τ c r ∨ r + 1 ≤ cntN (rgR τ c r) (un τ 26 26)
  | 0 => by
    by_cases h : cntN (rgR τ c 0) (un τ 26 26) = 0
    · refine .inl (rgK_cl (fun x hx _ hn => ?_) 6)
      have h2 := (cnt_sub (A := 0) (B := rgR τ c 0) (fun i hi => by rw [Nat.zero_testBit] at hi; cases hi) (un τ 26 26)).2
      have h0 : cntN 0 (un τ 26 26) = 0 := by have := (cnt_sub (A := 0) (B := rgR τ c 0) (fun i hi => by rw [Nat.zero_testBit] at hi; cases hi) (un τ 26 26)).1; omega
      have := h2 (by rw [h0, h]) x hn hx
      rw [Nat.zero_testBit] at this
      cases this
    · exact .inr (by omega)
  | r + 1 => by
    rcases rg_grow hw r with h | h
    · refine .inl ?_
      show rgK τ c (rgR τ c (r + 1)) 6 = rgK τ c (rgR τ c r) 6
      rw [h]
    · have hs := cnt_sub (A := rgR τ c r) (B := rgR τ c (r + 1)) (fun i hi => rgK_sub 6 hi) (un τ 26 26)
      by_cases e : cntN (rgR τ c r) (un τ 26 26) = cntN (rgR τ c (r + 1)) (un τ 26 26)
      · refine .inl (rgK_cl (fun x hx hc hn i hi => ?_) 6)
        exact rgK_step (by have := hw.1.2; omega) (hs.2 e x hn hx) hc hn hi
      · exact .inr (by omega)
theorem rg_cnt {τ : Mu} (hw : WFe τ) (c : Nat) : rgR τ c (un τ 26 26) = rgR τ c 7 := by
  have h : rgR τ c (un τ 26 26 + 1) = rgR τ c (un τ 26 26) := by
    rcases rg_grow hw (c := c) (un τ 26 26) with h | h
    · exact h
    · have := cnt_le (rgR τ c (un τ 26 26)) (un τ 26 26); omega
  have h2 := rg_st h (7 - un τ 26 26)
  rw [show un τ 26 26 + (7 - un τ 26 26) = 7 by have := hw.1.2; omega] at h2
  exact h2.symm
theorem rgK_n {τ : Mu} {c s : Nat} : ∀ k, rgK τ c s (un τ 26 26 + k) = rgK τ c s (un τ 26 26)
  | 0 => rfl
  | k + 1 => by
    show rgK τ c s (un τ 26 26 + k) ||| (if (rgK τ c s (un τ 26 26 + k)).testBit (un τ 26 26 + k) = true ∧ un τ 26 26 + k ≠ c ∧ un τ 26 26 + k < un τ 26 26 then needN τ (un τ 26 26 + k) else 0) = _
    rw [if_neg (by omega), Nat.or_zero, rgK_n k]
theorem rgK_6 {τ : Mu} (hn : un τ 26 26 ≤ 6) (c s : Nat) : rgK τ c s 6 = rgK τ c s (un τ 26 26) := by
  have := rgK_n (τ := τ) (c := c) (s := s) (6 - un τ 26 26)
  rw [show un τ 26 26 + (6 - un τ 26 26) = 6 by omega] at this
  exact this
/-- the set of the elements that are not done -/
def wtN (n D : Nat) : Nat := (2 ^ n - 1) ^^^ ((2 ^ n - 1) &&& D)
theorem and_not32 (x y : Int32) : x &&& (y ^^^ (-1)) = x ^^^ (x &&& y) := by
  apply Int32.toBitVec_inj.mp
  rw [Int32.toBitVec_and, Int32.toBitVec_xor, Int32.toBitVec_xor, Int32.toBitVec_and]
  apply BitVec.eq_of_getLsbD_eq
  intro i hi
  have h1 : ((-1 : Int32).toBitVec).getLsbD i = true := by
    rw [show (-1 : Int32).toBitVec = BitVec.allOnes 32 by decide, BitVec.getLsbD_allOnes]
    exact decide_eq_true hi
  rw [BitVec.getLsbD_and, BitVec.getLsbD_xor, BitVec.getLsbD_xor, BitVec.getLsbD_and, h1]
  cases x.toBitVec.getLsbD i <;> cases y.toBitVec.getLsbD i <;> rfl
theorem nI_xor {a b : Nat} (ha : a < 2 ^ 31) (hb : b < 2 ^ 31) : nI a ^^^ nI b = nI (a ^^^ b) := by
  have hx : a ^^^ b < 2 ^ 31 := Nat.xor_lt_two_pow ha hb
  apply Int32.toBitVec_inj.mp
  rw [Int32.toBitVec_xor]
  apply BitVec.eq_of_toNat_eq
  have e : ∀ n : Nat, n < 2 ^ 31 → (nI n).toBitVec.toNat = n := fun n hn => by
    show (BitVec.ofNat 32 n).toNat = n
    rw [BitVec.toNat_ofNat, Nat.mod_eq_of_lt (by omega)]
  rw [BitVec.toNat_xor, e a ha, e b hb, e _ hx]
theorem wt_I {n D : Nat} (hn : n ≤ 6) (hD : D < 2 ^ 31) : (nI (2 ^ n) - nI 1) &&& (nI D ^^^ (-1)) = nI (wtN n D) := by
  have hp := sh1 hn
  rw [pk_sub hp.2, and_not32, nI_and (by omega) hD, nI_xor (by omega) (Nat.lt_of_le_of_lt Nat.and_le_left (by omega))]
  rfl
theorem wt_tb {n D i : Nat} : (wtN n D).testBit i = (decide (i < n) && !D.testBit i) := by
  unfold wtN
  rw [Nat.testBit_xor, Nat.testBit_and, Nat.testBit_two_pow_sub_one]
  cases decide (i < n) <;> cases D.testBit i <;> rfl
theorem wt_lt {n D : Nat} (hn : n ≤ 6) : wtN n D < 2 ^ 31 := by
  have hp := sh1 hn
  exact Nat.xor_lt_two_pow (by omega) (Nat.lt_of_le_of_lt Nat.and_le_left (by omega))
theorem wt_need {n D a : Nat} : a &&& wtN n D = 0 ↔ (a &&& (2 ^ n - 1)) &&& D = a &&& (2 ^ n - 1) := by
  constructor
  · intro h
    apply Nat.eq_of_testBit_eq
    intro i
    have h2 : (a &&& wtN n D).testBit i = false := by rw [h, Nat.zero_testBit]
    rw [Nat.testBit_and, wt_tb] at h2
    rw [Nat.testBit_and, Nat.testBit_and, Nat.testBit_two_pow_sub_one]
    revert h2
    cases a.testBit i <;> cases decide (i < n) <;> cases D.testBit i <;> simp
  · intro h
    apply Nat.eq_of_testBit_eq
    intro i
    have h2 : ((a &&& (2 ^ n - 1)) &&& D).testBit i = (a &&& (2 ^ n - 1)).testBit i := by rw [h]
    rw [Nat.testBit_and, Nat.testBit_and, Nat.testBit_two_pow_sub_one] at h2
    rw [Nat.testBit_and, wt_tb, Nat.zero_testBit]
    revert h2
    cases a.testBit i <;> cases decide (i < n) <;> cases D.testBit i <;> simp
theorem fsZ {f : Nat → Bool} : ∀ {n : Nat}, (∀ j, j < n → f j = false) → fstN f n = none
  | 0, _ => rfl
  | n + 1, h => by
    show (match fstN f n with | some j => some j | none => if f n = true then some n else none) = none
    rw [fsZ (n := n) (fun j hj => h j (by omega))]
    exact if_neg (by rw [h n (by omega)]; decide)
theorem fsS {f : Nat → Bool} {e : Nat} (h1 : ∀ j, j < e → f j = false) (h2 : f e = true) : ∀ {n : Nat}, e < n → fstN f n = some e
  | 0, h => absurd h (Nat.not_lt_zero _)
  | n + 1, h => by
    show (match fstN f n with | some j => some j | none => if f n = true then some n else none) = some e
    by_cases z : e = n
    · subst z
      rw [fsZ h1]
      exact if_pos h2
    · rw [fsS h1 h2 (n := n) (by omega)]
theorem rgK_no {τ : Mu} {c s e : Nat} (h : ¬ ((rgK τ c s e).testBit e = true ∧ e ≠ c ∧ e < un τ 26 26)) : rgK τ c s e = rgK τ c s (e + 1) := by
  show _ = rgK τ c s e ||| (if (rgK τ c s e).testBit e = true ∧ e ≠ c ∧ e < un τ 26 26 then needN τ e else 0)
  rw [if_neg h, Nat.or_zero]
theorem rgK_yes {τ : Mu} {c s e : Nat} (h : (rgK τ c s e).testBit e = true ∧ e ≠ c ∧ e < un τ 26 26) : rgK τ c s (e + 1) = rgK τ c s e ||| needN τ e := by
  show rgK τ c s e ||| (if (rgK τ c s e).testBit e = true ∧ e ≠ c ∧ e < un τ 26 26 then needN τ e else 0) = _
  rw [if_pos h]
set_option maxHeartbeats 4000000 in
set_option maxRecDepth 100000 in
theorem c_X4_wouldNeedItself (l : Launch) (hfl : l.flags = flags0) (G : gW) (M : Mem) (f : Nat → Nat) (hb : Blk tbEl (mK M) (mN M) (mR M) f) (τ : Mu) (hw : WF τ) (hf : ElF τ (mI M) f) (c : Nat) (hc : c < 6) : CT l yX4_wouldNeedItself cX4_wouldNeedItself 5 (some .boolean) 1 0 0 21 G M [.ref (f 0), .int (nI c)] (fun v M' => v = some (.int (bI ((rgR τ c 7).testBit c))) ∧ M = M') := by
  refine CT.of hfl rfl (Nat.le_of_ble_eq_true rfl) ?_
  intro pp ee ss mm ar bw mt cd C hgX hr hini
  have hne := hw.ne.2
  obtain ⟨he0, he1, hwd, hnm, hle, hnd, hse, hod⟩ := id hf
  refine V.eLo (lo' := [(0, .ref (f 0)), (1, .int (nI c))]) rfl ?_
  refine r_aload_n C 0 dX4_wouldNeedItself_0 rfl rfl ?_
  refine r_getR C (b := (f 18)) fl_X4_23 rfl (hb.k 0 7 rfl) (hb.r 0 5 18 rfl) dX4_wouldNeedItself_1 ?_
  refine r_bipush C (v := nI 6) dX4_wouldNeedItself_4 (by decide) ?_
  refine r_ialoadN C (hb.k 18 20 rfl) (hb.n 18 7 rfl) (by omega) (by omega) dX4_wouldNeedItself_6 ?_
  refine V.ei (y := nI (needN τ 6)) (hnd 6 (by decide)) ?_
  refine r_istore_n C (lo' := [(2, .int (nI (needN τ 6))), (0, .ref (f 0)), (1, .int (nI c))]) dX4_wouldNeedItself_7 rfl (by decide) rfl ?_
  refine r_iconst C (v := nI 0) dX4_wouldNeedItself_8 (by decide) ?_
  refine r_istore_n C (lo' := [(3, .int (nI 0)), (2, .int (nI (needN τ 6))), (0, .ref (f 0)), (1, .int (nI c))]) dX4_wouldNeedItself_9 rfl (by decide) rfl ?_
  have lp10 : ∀ (k10 : Nat) (r : Nat) (hr1 : r ≤ un τ 26 26), un τ 26 26 + 1 - r < k10 → V pp l ee ({ frames := 1, cells := 0, slots := 0, locals := 21 } : Room) ss mm ar bw mt cd G (MQ bw (Ke G (fun v M' => v = some (.int (bI ((rgR τ c 7).testBit c))) ∧ M = M')) ar ss 0 0 (gA G)) 5 M 0 0 10 [(0, .ref (f 0)), (1, .int (nI c)), (2, .int (nI (rgR τ c r))), (3, .int (nI r))] [] := by
    intro k10
    induction k10 with
    | zero => intro r hr1 hz10; exact absurd hz10 (Nat.not_lt_zero _)
    | succ k10 ih10 =>
      intro r hr1 hz10
      have hrl := rgR_lt hw.e (num := c) r
      refine r_iload_n C 3 dX4_wouldNeedItself_10 rfl rfl ?_
      refine r_aload_n C 0 dX4_wouldNeedItself_11 rfl rfl ?_
      refine r_getI C fl_X4_43 rfl (hb.k 0 7 rfl) dX4_wouldNeedItself_12 ?_
      refine V.ei (y := nI (un τ 26 26)) (he0) ?_
      refine r_icmp_geN C (t := 67) (by omega) (by omega) dX4_wouldNeedItself_15 (by decide) (fun c15 => ?_) (fun c15 => ?_)
      · skip
        have er : r = un τ 26 26 := by omega
        subst er
        refine r_iload_n C 1 dX4_wouldNeedItself_67 rfl rfl ?_
        refine r_iload_n C 2 dX4_wouldNeedItself_68 rfl rfl ?_
        refine r_callS C hgX ml_X4_46 st_X4_isIn (c_X4_isIn l hfl G M c (rgR τ c (un τ 26 26)) (by omega) (by omega)) rfl (Nat.le_of_ble_eq_true rfl) ⟨Nat.le_of_ble_eq_true rfl, Nat.le_of_ble_eq_true rfl⟩ ⟨Nat.le_of_ble_eq_true rfl, Nat.le_of_ble_eq_true rfl⟩ dX4_wouldNeedItself_69 rfl ?_
        rintro _ _ ⟨rfl, rfl⟩
        refine V.eSt (st' := [.int (bI (Nat.testBit (rgR τ c (un τ 26 26)) c))]) rfl ?_
        exact r_zret C hr (bI_01 _) (⟨by rw [← rg_cnt hw.e], rfl⟩) (by first | exact Nat.zero_le _ | decide) (by first | exact Nat.zero_le _ | decide) dX4_wouldNeedItself_72
      · skip
        refine r_iconst C (v := nI 0) dX4_wouldNeedItself_18 (by decide) ?_
        refine r_istore C (lo' := [(4, .int (nI 0)), (0, .ref (f 0)), (1, .int (nI c)), (2, .int (nI (rgR τ c r))), (3, .int (nI r))]) dX4_wouldNeedItself_19 (by decide) rfl ?_
        have lp21 : ∀ (k21 : Nat) (x : Nat) (hx : x ≤ un τ 26 26), un τ 26 26 + 1 - x < k21 → V pp l ee ({ frames := 1, cells := 0, slots := 0, locals := 21 } : Room) ss mm ar bw mt cd G (MQ bw (Ke G (fun v M' => v = some (.int (bI ((rgR τ c 7).testBit c))) ∧ M = M')) ar ss 0 0 (gA G)) 5 M 0 0 21 [(0, .ref (f 0)), (1, .int (nI c)), (2, .int (nI (rgK τ c (rgR τ c r) x))), (3, .int (nI r)), (4, .int (nI x))] [] := by
          intro k21
          induction k21 with
          | zero => intro x hx hz21; exact absurd hz21 (Nat.not_lt_zero _)
          | succ k21 ih21 =>
            intro x hx hz21
            have hkl := rgK_lt hw.e (num := c) hrl x (by omega)
            refine r_iload C 4 dX4_wouldNeedItself_21 rfl ?_
            refine r_aload_n C 0 dX4_wouldNeedItself_23 rfl rfl ?_
            refine r_getI C fl_X4_43 rfl (hb.k 0 7 rfl) dX4_wouldNeedItself_24 ?_
            refine V.ei (y := nI (un τ 26 26)) (he0) ?_
            refine r_icmp_geN C (t := 61) (by omega) (by omega) dX4_wouldNeedItself_27 (by decide) (fun c27 => ?_) (fun c27 => ?_)
            · skip
              have ee : x = un τ 26 26 := by omega
              refine r_iinc C (v := nI (r + 1)) (lo' := [(3, .int (nI (r + 1))), (0, .ref (f 0)), (1, .int (nI c)), (2, .int (nI (rgK τ c (rgR τ c r) x))), (4, .int (nI x))]) 3 dX4_wouldNeedItself_61 rfl (nI_addI r 1) (by decide) rfl ?_
              refine r_goto C (t := 10) dX4_wouldNeedItself_64 (by decide) ?_
              have jb2 : (rgK τ c (rgR τ c r) x) = (rgR τ c (r + 1)) := by subst ee; exact (rgK_6 hne _ _).symm
              refine V.eLo (lo' := [(3, .int (nI (r + 1))), (0, .ref (f 0)), (1, .int (nI c)), (2, .int (nI (rgR τ c (r + 1)))), (4, .int (nI x))]) (congrArg (fun z_ => ([(3, .int (nI (r + 1))), (0, .ref (f 0)), (1, .int (nI c)), (2, .int (nI z_)), (4, .int (nI x))] : List (Nat × Value))) jb2) ?_
              refine V.sub [1, 2, 3, 0] (lo' := [(0, .ref (f 0)), (1, .int (nI c)), (2, .int (nI (rgR τ c (r + 1)))), (3, .int (nI (r + 1)))]) rfl ?_
              exact ih10 (r + 1) (by omega) (by omega)
            · skip
              have hnl := needN_lt hw.e (show x < 7 by omega)
              refine r_iload C 4 dX4_wouldNeedItself_30 rfl ?_
              refine r_iload_n C 1 dX4_wouldNeedItself_32 rfl rfl ?_
              refine r_icmp_eqN C (t := 55) (by omega) (by omega) dX4_wouldNeedItself_33 (by decide) (fun c33 => ?_) (fun c33 => ?_)
              · skip
                refine r_iinc C (v := nI (x + 1)) (lo' := [(4, .int (nI (x + 1))), (0, .ref (f 0)), (1, .int (nI c)), (2, .int (nI (rgK τ c (rgR τ c r) x))), (3, .int (nI r))]) 4 dX4_wouldNeedItself_55 rfl (nI_addI x 1) (by decide) rfl ?_
                refine r_goto C (t := 21) dX4_wouldNeedItself_58 (by decide) ?_
                have jb2 : (rgK τ c (rgR τ c r) x) = (rgK τ c (rgR τ c r) (x + 1)) := by exact rgK_no (fun q => q.2.1 c33)
                refine V.eLo (lo' := [(4, .int (nI (x + 1))), (0, .ref (f 0)), (1, .int (nI c)), (2, .int (nI (rgK τ c (rgR τ c r) (x + 1)))), (3, .int (nI r))]) (congrArg (fun z_ => ([(4, .int (nI (x + 1))), (0, .ref (f 0)), (1, .int (nI c)), (2, .int (nI z_)), (3, .int (nI r))] : List (Nat × Value))) jb2) ?_
                refine V.sub [1, 2, 3, 4, 0] (lo' := [(0, .ref (f 0)), (1, .int (nI c)), (2, .int (nI (rgK τ c (rgR τ c r) (x + 1)))), (3, .int (nI r)), (4, .int (nI (x + 1)))]) rfl ?_
                exact ih21 (x + 1) (by omega) (by omega)
              · skip
                refine r_iload C 4 dX4_wouldNeedItself_36 rfl ?_
                refine r_iload_n C 2 dX4_wouldNeedItself_38 rfl rfl ?_
                refine r_callS C hgX ml_X4_46 st_X4_isIn (c_X4_isIn l hfl G M x (rgK τ c (rgR τ c r) x) (by omega) (by omega)) rfl (Nat.le_of_ble_eq_true rfl) ⟨Nat.le_of_ble_eq_true rfl, Nat.le_of_ble_eq_true rfl⟩ ⟨Nat.le_of_ble_eq_true rfl, Nat.le_of_ble_eq_true rfl⟩ dX4_wouldNeedItself_39 rfl ?_
                rintro _ _ ⟨rfl, rfl⟩
                refine V.eSt (st' := [.int (bI (Nat.testBit (rgK τ c (rgR τ c r) x) x))]) rfl ?_
                refine r_if_eqB C (t := 55) dX4_wouldNeedItself_42 (by decide) (fun c42 => ?_) (fun c42 => ?_)
                · skip
                  refine r_iinc C (v := nI (x + 1)) (lo' := [(4, .int (nI (x + 1))), (0, .ref (f 0)), (1, .int (nI c)), (2, .int (nI (rgK τ c (rgR τ c r) x))), (3, .int (nI r))]) 4 dX4_wouldNeedItself_55 rfl (nI_addI x 1) (by decide) rfl ?_
                  refine r_goto C (t := 21) dX4_wouldNeedItself_58 (by decide) ?_
                  have jb2 : (rgK τ c (rgR τ c r) x) = (rgK τ c (rgR τ c r) (x + 1)) := by exact rgK_no (fun q => by rw [c42] at q; exact absurd q.1 (by decide))
                  refine V.eLo (lo' := [(4, .int (nI (x + 1))), (0, .ref (f 0)), (1, .int (nI c)), (2, .int (nI (rgK τ c (rgR τ c r) (x + 1)))), (3, .int (nI r))]) (congrArg (fun z_ => ([(4, .int (nI (x + 1))), (0, .ref (f 0)), (1, .int (nI c)), (2, .int (nI z_)), (3, .int (nI r))] : List (Nat × Value))) jb2) ?_
                  refine V.sub [1, 2, 3, 4, 0] (lo' := [(0, .ref (f 0)), (1, .int (nI c)), (2, .int (nI (rgK τ c (rgR τ c r) (x + 1)))), (3, .int (nI r)), (4, .int (nI (x + 1)))]) rfl ?_
                  exact ih21 (x + 1) (by omega) (by omega)
                · skip
                  refine r_iload_n C 2 dX4_wouldNeedItself_45 rfl rfl ?_
                  refine r_aload_n C 0 dX4_wouldNeedItself_46 rfl rfl ?_
                  refine r_getR C (b := (f 18)) fl_X4_23 rfl (hb.k 0 7 rfl) (hb.r 0 5 18 rfl) dX4_wouldNeedItself_47 ?_
                  refine r_iload C 4 dX4_wouldNeedItself_50 rfl ?_
                  refine r_ialoadN C (hb.k 18 20 rfl) (hb.n 18 7 rfl) (by omega) (by omega) dX4_wouldNeedItself_52 ?_
                  refine V.ei (y := nI (needN τ x)) (hnd x (by omega)) ?_
                  refine r_ior C dX4_wouldNeedItself_53 ?_
                  refine V.ei (y := nI ((rgK τ c (rgR τ c r) x) ||| (needN τ x))) (nI_or (by omega) (by omega)) ?_
                  refine r_istore_n C (lo' := [(2, .int (nI ((rgK τ c (rgR τ c r) x) ||| (needN τ x)))), (0, .ref (f 0)), (1, .int (nI c)), (3, .int (nI r)), (4, .int (nI x))]) dX4_wouldNeedItself_54 rfl (by decide) rfl ?_
                  refine r_iinc C (v := nI (x + 1)) (lo' := [(4, .int (nI (x + 1))), (2, .int (nI ((rgK τ c (rgR τ c r) x) ||| (needN τ x)))), (0, .ref (f 0)), (1, .int (nI c)), (3, .int (nI r))]) 4 dX4_wouldNeedItself_55 rfl (nI_addI x 1) (by decide) rfl ?_
                  refine r_goto C (t := 21) dX4_wouldNeedItself_58 (by decide) ?_
                  have jb2 : ((rgK τ c (rgR τ c r) x) ||| (needN τ x)) = (rgK τ c (rgR τ c r) (x + 1)) := by exact (rgK_yes ⟨c42, c33, by omega⟩).symm
                  refine V.eLo (lo' := [(4, .int (nI (x + 1))), (2, .int (nI (rgK τ c (rgR τ c r) (x + 1)))), (0, .ref (f 0)), (1, .int (nI c)), (3, .int (nI r))]) (congrArg (fun z_ => ([(4, .int (nI (x + 1))), (2, .int (nI z_)), (0, .ref (f 0)), (1, .int (nI c)), (3, .int (nI r))] : List (Nat × Value))) jb2) ?_
                  refine V.sub [2, 3, 1, 4, 0] (lo' := [(0, .ref (f 0)), (1, .int (nI c)), (2, .int (nI (rgK τ c (rgR τ c r) (x + 1)))), (3, .int (nI r)), (4, .int (nI (x + 1)))]) rfl ?_
                  exact ih21 (x + 1) (by omega) (by omega)
        refine V.sub [1, 2, 3, 4, 0] (lo' := [(0, .ref (f 0)), (1, .int (nI c)), (2, .int (nI (rgR τ c r))), (3, .int (nI r)), (4, .int (nI 0))]) rfl ?_
        exact lp21 _ 0 (Nat.zero_le _) (Nat.lt_succ_self _)
  refine V.sub [2, 3, 1, 0] (lo' := [(0, .ref (f 0)), (1, .int (nI c)), (2, .int (nI (needN τ 6))), (3, .int (nI 0))]) rfl ?_
  exact lp10 _ 0 (Nat.zero_le _) (Nat.lt_succ_self _)

