/-! THE REFERENCE: the order of elements -/
theorem gb_nI {a i : Nat} (hi : i < 32) : (nI a).toBitVec.getLsbD i = a.testBit i := by
  show (BitVec.ofNat 32 a).getLsbD i = _
  rw [BitVec.getLsbD_ofNat, decide_eq_true hi, Bool.true_and]
theorem andn0 {a b : Nat} (ha : a < 2 ^ 31) : nI a &&& (nI b ^^^ (-1)) = 0 ↔ a &&& b = a := by
  have hm : ∀ i, i < 32 → (-1 : Int32).toBitVec.getLsbD i = true := by decide +kernel
  have hz : ∀ i, i < 32 → (0 : Int32).toBitVec.getLsbD i = false := by decide +kernel
  constructor
  · intro h
    apply Nat.eq_of_testBit_eq
    intro i
    rw [Nat.testBit_and]
    by_cases hi : i < 32
    · have h2 : (nI a &&& (nI b ^^^ (-1))).toBitVec.getLsbD i = (0 : Int32).toBitVec.getLsbD i := by rw [h]
      rw [Int32.toBitVec_and, BitVec.getLsbD_and, Int32.toBitVec_xor, BitVec.getLsbD_xor, gb_nI hi, gb_nI hi, hm i hi, hz i hi] at h2
      revert h2
      cases a.testBit i <;> cases b.testBit i <;> simp
    · rw [Nat.testBit_lt_two_pow (Nat.lt_of_lt_of_le ha (Nat.pow_le_pow_right (by decide) (by omega)))]; rfl
  · intro h
    apply Int32.toBitVec_inj.mp
    apply BitVec.eq_of_getLsbD_eq
    intro i hi
    rw [Int32.toBitVec_and, BitVec.getLsbD_and, Int32.toBitVec_xor, BitVec.getLsbD_xor, gb_nI hi, gb_nI hi, hm i hi, hz i hi]
    have h2 : (a &&& b).testBit i = a.testBit i := by rw [h]
    rw [Nat.testBit_and] at h2
    revert h2
    cases a.testBit i <;> cases b.testBit i <;> simp
theorem fst_none' {f : Nat → Bool} : ∀ {n : Nat}, fstN f n = none → ∀ k, k < n → f k = false
  | 0, _, k, hk => absurd hk (Nat.not_lt_zero _)
  | n + 1, h, k, hk => by
    have h1 : (match fstN f n with | some j => some j | none => if f n = true then some n else none) = none := h
    cases h2 : fstN f n with
    | some i => rw [h2] at h1; cases h1
    | none =>
      rw [h2] at h1
      by_cases z : f n = true
      · simp only [if_pos z] at h1; cases h1
      · by_cases e : k = n
        · subst e; simpa using z
        · exact fst_none' h2 k (by omega)
theorem fst_ex {f : Nat → Bool} {n k : Nat} (hk : k < n) (h : f k = true) : ∃ j, fstN f n = some j := by
  cases h2 : fstN f n with
  | some j => exact ⟨j, rfl⟩
  | none => rw [fst_none' h2 k hk] at h; cases h
def acyc (τ : Mu) : Prop := ∃ rk : Nat → Nat, ∀ e f, e < un τ 26 26 → f < un τ 26 26 → (needN τ e).testBit f = true → rk f < rk e
theorem fit_iff {τ : Mu} {D e : Nat} : fitB τ D e = true ↔ D.testBit e = false ∧ ∀ i, i < un τ 26 26 → (needN τ e).testBit i = true → D.testBit i = true := by
  unfold fitB
  rw [Bool.and_eq_true, Bool.not_eq_true', decide_eq_true_iff]
  constructor
  · rintro ⟨h1, h2⟩
    refine ⟨h1, fun i hi hn => ?_⟩
    have h3 : ((needN τ e &&& (2 ^ un τ 26 26 - 1)) &&& D).testBit i = (needN τ e &&& (2 ^ un τ 26 26 - 1)).testBit i := by rw [h2]
    rw [Nat.testBit_and, Nat.testBit_and, Nat.testBit_two_pow_sub_one, hn, decide_eq_true hi] at h3
    simpa using h3
  · rintro ⟨h1, h2⟩
    refine ⟨h1, Nat.eq_of_testBit_eq fun i => ?_⟩
    rw [Nat.testBit_and, Nat.testBit_and, Nat.testBit_two_pow_sub_one]
    by_cases hi : i < un τ 26 26
    · cases hn : (needN τ e).testBit i with
      | false => simp
      | true => rw [h2 i hi hn]; simp
    · simp [hi]
theorem fit_ex {τ : Mu} (ha : acyc τ) {D : Nat} (h : ∃ e, e < un τ 26 26 ∧ D.testBit e = false) : ∃ e, e < un τ 26 26 ∧ fitB τ D e = true := by
  obtain ⟨rk, hr⟩ := ha
  obtain ⟨e0, he0, hd0⟩ := h
  obtain ⟨r, ⟨e, he, hd, hre⟩, hmin⟩ := pk_least (fun r => ∃ e, e < un τ 26 26 ∧ D.testBit e = false ∧ rk e = r) ⟨rk e0, e0, he0, hd0, rfl⟩
  refine ⟨e, he, fit_iff.mpr ⟨hd, fun i hi hn => ?_⟩⟩
  cases hi2 : D.testBit i with
  | true => rfl
  | false => exact absurd ⟨i, hi, hi2, rfl⟩ (hmin (rk i) (by rw [← hre]; exact hr e i he hi hn))
def cntN (D n : Nat) : Nat := sumN (fun i => if D.testBit i = true then 1 else 0) 0 n
theorem cnt_full {D : Nat} : ∀ {n : Nat}, (∀ i, i < n → D.testBit i = true) → cntN D n = n
  | 0, _ => rfl
  | n + 1, h => by
    unfold cntN
    rw [sumN_1, if_pos (h n (by omega))]
    have := cnt_full (D := D) (n := n) (fun i hi => h i (by omega))
    unfold cntN at this
    omega
theorem cnt_ex {D n : Nat} (h : cntN D n < n) : ∃ i, i < n ∧ D.testBit i = false := by
  apply Classical.byContradiction
  intro hc
  have := cnt_full (D := D) (n := n) (fun i hi => by
    cases z : D.testBit i with
    | true => rfl
    | false => exact absurd ⟨i, hi, z⟩ hc)
  omega
theorem cnt_or {D e : Nat} (he : D.testBit e = false) : ∀ n, cntN (D ||| 2 ^ e) n = cntN D n + if e < n then 1 else 0
  | 0 => by rw [if_neg (by omega)]; rfl
  | n + 1 => by
    have ih := cnt_or he n
    unfold cntN at ih ⊢
    rw [sumN_1, sumN_1, ih, Nat.testBit_or, Nat.testBit_two_pow]
    by_cases z : e = n
    · subst z
      rw [he, if_neg (by omega : ¬ e < e), if_pos (by omega : e < e + 1)]
      simp
    · rw [show decide (e = n) = false from decide_eq_false z, Bool.or_false]
      by_cases y : e < n
      · rw [if_pos y, if_pos (by omega : e < n + 1)]; omega
      · rw [if_neg y, if_neg (by omega : ¬ e < n + 1)]; omega
/-- as long as not all are placed, one fits -/
theorem arr_ok {τ : Mu} (ha : acyc τ) (hn : un τ 26 26 ≤ 6) : ∀ k, k ≤ un τ 26 26 → cntN (arrD τ k) (un τ 26 26) = k ∧ arrD τ k < 2 ^ 6
  | 0, _ => ⟨by
      have : ∀ n, cntN 0 n = 0 := fun n => by
        induction n with
        | zero => rfl
        | succ n ih => unfold cntN at ih ⊢; rw [sumN_1, ih]; simp
      exact this _, by show 0 < _; decide⟩
  | k + 1, hk => by
    have ih := arr_ok ha hn k (by omega)
    obtain ⟨e, he, hf⟩ := fit_ex ha (cnt_ex (D := arrD τ k) (n := un τ 26 26) (by omega))
    obtain ⟨j, hj⟩ := fst_ex he hf
    have hs : arrS τ (arrD τ k) = j := by unfold arrS; rw [hj]
    have hj2 := fst_lt hj
    have hb := (fit_iff.mp hj2.2).1
    show cntN (arrD τ k ||| 2 ^ arrS τ (arrD τ k)) _ = _ ∧ arrD τ k ||| 2 ^ arrS τ (arrD τ k) < _
    rw [hs]
    refine ⟨by rw [cnt_or hb, if_pos hj2.1, ih.1], Nat.or_lt_two_pow ih.2 (Nat.pow_lt_pow_right (by decide) (by omega))⟩
theorem arr_s {τ : Mu} (ha : acyc τ) (hn : un τ 26 26 ≤ 6) {k : Nat} (hk : k < un τ 26 26) : fstN (fitB τ (arrD τ k)) (un τ 26 26) = some (arrS τ (arrD τ k)) ∧ arrS τ (arrD τ k) < un τ 26 26 ∧ (arrD τ k).testBit (arrS τ (arrD τ k)) = false := by
  have ih := arr_ok ha hn k (by omega)
  obtain ⟨e, he, hf⟩ := fit_ex ha (cnt_ex (D := arrD τ k) (n := un τ 26 26) (by omega))
  obtain ⟨j, hj⟩ := fst_ex he hf
  have hs : arrS τ (arrD τ k) = j := by unfold arrS; rw [hj]
  rw [hs]
  exact ⟨hj, (fst_lt hj).1, (fit_iff.mp (fst_lt hj).2).1⟩
def arU (τ : Mu) (n : Nat) : Mu := (fun k x => if k = 27 ∧ x < n then nI (arrS τ (arrD τ x)) else τ.1 k x, τ.2)
theorem arU_o (τ : Mu) (n k x : Nat) (h : k ≠ 27) : (arU τ n).1 k x = τ.1 k x := if_neg (fun q => h q.1)
theorem arU_0 (τ : Mu) : arU τ 0 = τ := by
  unfold arU
  rw [show (fun k x => if k = 27 ∧ x < 0 then nI (arrS τ (arrD τ x)) else τ.1 k x) = τ.1 from funext fun k => funext fun x => if_neg (fun q => by omega)]
theorem arU_s (τ : Mu) (n : Nat) : (up2 (arU τ n).1 27 n (nI (arrS τ (arrD τ n))), (arU τ n).2) = arU τ (n + 1) := by
  unfold arU
  refine Prod.ext (funext fun k => funext fun x => ?_) rfl
  show (if k = 27 then (if x = n then nI (arrS τ (arrD τ n)) else (if k = 27 ∧ x < n then nI (arrS τ (arrD τ x)) else τ.1 k x)) else (if k = 27 ∧ x < n then nI (arrS τ (arrD τ x)) else τ.1 k x)) = (if k = 27 ∧ x < n + 1 then nI (arrS τ (arrD τ x)) else τ.1 k x)
  by_cases e : k = 27
  · rw [if_pos e]
    by_cases z : x = n
    · subst z; rw [if_pos rfl, if_pos ⟨e, by omega⟩]
    · rw [if_neg z]; exact if_cg ⟨fun q => ⟨q.1, by omega⟩, fun q => ⟨q.1, by omega⟩⟩
  · rw [if_neg e, if_neg (fun q => e q.1), if_neg (fun q => e q.1)]
theorem needK_cg {τ τ' : Mu} (h22 : ∀ x, τ'.1 22 x = τ.1 22 x) (h23 : ∀ x, τ'.1 23 x = τ.1 23 x) (e : Nat) : ∀ k, needK τ' e k = needK τ e k
  | 0 => rfl
  | k + 1 => by
    have ih := needK_cg h22 h23 e k
    unfold needK un
    rw [ih, h22, h23]
theorem needN_cg {τ τ' : Mu} (h22 : ∀ x, τ'.1 22 x = τ.1 22 x) (h23 : ∀ x, τ'.1 23 x = τ.1 23 x) (h24 : ∀ x, τ'.1 24 x = τ.1 24 x) (e : Nat) : needN τ' e = needN τ e := by
  unfold needN
  rw [needK_cg h22 h23, show un τ' 24 e = un τ 24 e by unfold un; rw [h24]]
theorem WFe.ar {τ : Mu} (h : WFe τ) (k : Nat) : WFe (arU τ k) := h
theorem tb0 (a i : Nat) : (a / 2 ^ i &&& 1 = 0) ↔ a.testBit i = false := by
  have h := tb1 a i
  rw [Nat.and_one_is_mod] at h ⊢
  cases z : a.testBit i with
  | true => rw [z] at h; have := h.mpr rfl; simp; omega
  | false => rw [z] at h; simp at h ⊢; omega
/-- the closure of what a draft asks for -/
def rgK (τ : Mu) (num s : Nat) : Nat → Nat
  | 0 => s
  | e + 1 => rgK τ num s e ||| (if (rgK τ num s e).testBit e = true ∧ e ≠ num ∧ e < un τ 26 26 then needN τ e else 0)
def rgR (τ : Mu) (num : Nat) : Nat → Nat
  | 0 => needN τ 6
  | r + 1 => rgK τ num (rgR τ num r) 6
theorem rgK_lt {τ : Mu} (hw : WFe τ) {num s : Nat} (hs : s < 2 ^ 6) : ∀ e, e ≤ 6 → rgK τ num s e < 2 ^ 6
  | 0, _ => hs
  | e + 1, he => by
    refine Nat.or_lt_two_pow (rgK_lt hw hs e (by omega)) ?_
    split
    · exact needN_lt hw (by omega)
    · decide
theorem rgR_lt {τ : Mu} (hw : WFe τ) {num : Nat} : ∀ r, rgR τ num r < 2 ^ 6
  | 0 => needN_lt hw (by decide)
  | r + 1 => rgK_lt hw (rgR_lt hw r) 6 (Nat.le_refl _)
theorem sh1 {n : Nat} (hn : n ≤ 6) : 2 ^ n ≤ 64 ∧ 1 ≤ 2 ^ n := ⟨Nat.le_trans (Nat.pow_le_pow_right (by decide) hn) (by decide), Nat.one_le_two_pow⟩
theorem div_le2 (a k : Nat) : a / 2 ^ k ≤ a := Nat.div_le_self _ _
theorem and1_lt (a : Nat) : a &&& 1 < 2 ^ 31 := Nat.lt_of_le_of_lt Nat.and_le_right (by decide)

set_option maxHeartbeats 4000000 in
set_option maxRecDepth 100000 in
theorem c_X12_rings (l : Launch) (hfl : l.flags = flags0) (G : gW) (M : Mem) (mb : Nat) (τ : Mu) (hm : MOK (mK M) (mN M) (mR M) mb) (ht : TE (mI M) (mL M) mb τ) (hw : WF τ) (q : Nat) (hq : q < 6) : CT l yX12_rings cX12_rings 6 (some .boolean) 1 0 0 23 G M [.ref mb, .int (nI q)] (fun v M' => v = some (.int (bI ((rgR τ q 7).testBit q))) ∧ M = M') := by
  refine CT.of hfl rfl (Nat.le_of_ble_eq_true rfl) ?_
  intro pp ee ss mm ar bw mt cd C hgX hr hini
  have hnc := hw.nc.2
  have hsh := hw.sh.2
  have hnl := hw.nl.2
  have hne := hw.ne.2
  have hng := hw.ng.2
  have hop := hw.op.2
  have hnp := hw.np.2
  refine V.eLo (lo' := [(0, .ref mb), (1, .int (nI q))]) rfl ?_
  refine r_aload_n C 0 dX12_rings_0 rfl rfl ?_
  refine r_bipush C (v := nI 6) dX12_rings_1 (by decide) ?_
  refine r_callV C hgX (ci := 14) ml_X12_313 im_X12_needs se_X12_needs rfl rfl hm.k (c_X12_needs l hfl G M mb τ hm ht hw.e 6 (by omega)) rfl (Nat.le_of_ble_eq_true rfl) ⟨Nat.le_of_ble_eq_true rfl, Nat.le_of_ble_eq_true rfl⟩ ⟨Nat.le_of_ble_eq_true rfl, Nat.le_of_ble_eq_true rfl⟩ dX12_rings_3 rfl ?_
  rintro _ _ ⟨rfl, rfl⟩
  refine V.eSt (st' := [.int (nI (needN τ 6))]) rfl ?_
  refine r_istore_n C (lo' := [(2, .int (nI (needN τ 6))), (0, .ref mb), (1, .int (nI q))]) dX12_rings_6 rfl (by decide) rfl ?_
  refine r_iconst C (v := nI 0) dX12_rings_7 (by decide) ?_
  refine r_istore_n C (lo' := [(3, .int (nI 0)), (2, .int (nI (needN τ 6))), (0, .ref mb), (1, .int (nI q))]) dX12_rings_8 rfl (by decide) rfl ?_
  have lp9 : ∀ (k9 : Nat) (r : Nat) (hr7 : r ≤ 7), 8 - r < k9 → V pp l ee ({ frames := 1, cells := 0, slots := 0, locals := 23 } : Room) ss mm ar bw mt cd G (MQ bw (Ke G (fun v M' => v = some (.int (bI ((rgR τ q 7).testBit q))) ∧ M = M')) ar ss 0 0 (gA G)) 6 M 0 0 9 [(0, .ref mb), (1, .int (nI q)), (2, .int (nI (rgR τ q r))), (3, .int (nI r))] [] := by
    intro k9
    induction k9 with
    | zero => intro r hr7 hz9; exact absurd hz9 (Nat.not_lt_zero _)
    | succ k9 ih9 =>
      intro r hr7 hz9
      have hrl := rgR_lt hw.e (num := q) r
      refine r_iload_n C 3 dX12_rings_9 rfl rfl ?_
      refine r_bipush C (v := nI 7) dX12_rings_10 (by decide) ?_
      refine r_icmp_geN C (t := 87) (by omega) (by omega) dX12_rings_12 (by decide) (fun c12 => ?_) (fun c12 => ?_)
      · skip
        have er : r = 7 := by omega
        subst er
        refine r_iload_n C 2 dX12_rings_87 rfl rfl ?_
        refine r_iload_n C 1 dX12_rings_88 rfl rfl ?_
        have hdv := div_le2 (rgR τ q 7) q
        refine r_ishr C dX12_rings_89 ?_
        refine V.ei (y := nI ((rgR τ q 7) / 2 ^ q)) (nI_shr (by omega) (by omega)) ?_
        refine r_iconst C (v := nI 1) dX12_rings_90 (by decide) ?_
        refine r_iand C dX12_rings_91 ?_
        refine V.ei (y := nI (((rgR τ q 7) / 2 ^ q) &&& 1)) (nI_and (by omega) (by omega)) ?_
        refine r_iconst C (v := nI 1) dX12_rings_92 (by decide) ?_
        refine r_icmp_neN C (t := 100) (by exact and1_lt _) (by omega) dX12_rings_93 (by decide) (fun c93 => ?_) (fun c93 => ?_)
        · skip
          refine r_iconst C (v := nI 0) dX12_rings_100 (by decide) ?_
          exact r_zret C hr (by decide) (⟨by rw [show (rgR τ q 7).testBit q = false from (Bool.not_eq_true _).mp (fun z => c93 ((tb1 _ _).mpr z))]; rfl, rfl⟩) (by first | exact Nat.zero_le _ | decide) (by first | exact Nat.zero_le _ | decide) dX12_rings_101
        · skip
          refine r_iconst C (v := nI 1) dX12_rings_96 (by decide) ?_
          refine r_goto C (t := 101) dX12_rings_97 (by decide) ?_
          exact r_zret C hr (by decide) (⟨by rw [(tb1 _ _).mp c93]; rfl, rfl⟩) (by first | exact Nat.zero_le _ | decide) (by first | exact Nat.zero_le _ | decide) dX12_rings_101
      · skip
        refine r_iconst C (v := nI 0) dX12_rings_15 (by decide) ?_
        refine r_istore C (lo' := [(4, .int (nI 0)), (0, .ref mb), (1, .int (nI q)), (2, .int (nI (rgR τ q r))), (3, .int (nI r))]) dX12_rings_16 (by decide) rfl ?_
        have lp18 : ∀ (k18 : Nat) (e : Nat) (he : e ≤ 6), 7 - e < k18 → V pp l ee ({ frames := 1, cells := 0, slots := 0, locals := 23 } : Room) ss mm ar bw mt cd G (MQ bw (Ke G (fun v M' => v = some (.int (bI ((rgR τ q 7).testBit q))) ∧ M = M')) ar ss 0 0 (gA G)) 6 M 0 0 18 [(0, .ref mb), (1, .int (nI q)), (2, .int (nI (rgK τ q (rgR τ q r) e))), (3, .int (nI r)), (4, .int (nI e))] [] := by
          intro k18
          induction k18 with
          | zero => intro e he hz18; exact absurd hz18 (Nat.not_lt_zero _)
          | succ k18 ih18 =>
            intro e he hz18
            have hkl := rgK_lt hw.e hrl (num := q) e he
            have hdv := div_le2 (rgK τ q (rgR τ q r) e) e
            have ha1 := and1_lt ((rgK τ q (rgR τ q r) e) / 2 ^ e)
            refine r_iload C 4 dX12_rings_18 rfl ?_
            refine r_bipush C (v := nI 6) dX12_rings_20 (by decide) ?_
            refine r_icmp_geN C (t := 81) (by omega) (by omega) dX12_rings_22 (by decide) (fun c22 => ?_) (fun c22 => ?_)
            · skip
              have ee6 : e = 6 := by omega
              refine r_iinc C (v := nI (r + 1)) (lo' := [(3, .int (nI (r + 1))), (0, .ref mb), (1, .int (nI q)), (2, .int (nI (rgK τ q (rgR τ q r) e))), (4, .int (nI e))]) 3 dX12_rings_81 rfl (nI_addI r 1) (by decide) rfl ?_
              refine r_goto C (t := 9) dX12_rings_84 (by decide) ?_
              have jb2 : (rgK τ q (rgR τ q r) e) = (rgR τ q (r + 1)) := by subst ee6; rfl
              refine V.eLo (lo' := [(3, .int (nI (r + 1))), (0, .ref mb), (1, .int (nI q)), (2, .int (nI (rgR τ q (r + 1)))), (4, .int (nI e))]) (congrArg (fun z_ => ([(3, .int (nI (r + 1))), (0, .ref mb), (1, .int (nI q)), (2, .int (nI z_)), (4, .int (nI e))] : List (Nat × Value))) jb2) ?_
              refine V.sub [1, 2, 3, 0] (lo' := [(0, .ref mb), (1, .int (nI q)), (2, .int (nI (rgR τ q (r + 1)))), (3, .int (nI (r + 1)))]) rfl ?_
              exact ih9 (r + 1) (by omega) (by omega)
            · skip
              have jn40 : V pp l ee ({ frames := 1, cells := 0, slots := 0, locals := 23 } : Room) ss mm ar bw mt cd G (MQ bw (Ke G (fun v M' => v = some (.int (bI ((rgR τ q 7).testBit q))) ∧ M = M')) ar ss 0 0 (gA G)) 6 M 0 0 40 [(0, .ref mb), (1, .int (nI q)), (2, .int (nI (rgK τ q (rgR τ q r) e))), (3, .int (nI r)), (4, .int (nI e))] [.int (bI ((rgK τ q (rgR τ q r) e).testBit e))] := by
                skip
                refine r_istore C (lo' := [(5, .int (bI ((rgK τ q (rgR τ q r) e).testBit e))), (0, .ref mb), (1, .int (nI q)), (2, .int (nI (rgK τ q (rgR τ q r) e))), (3, .int (nI r)), (4, .int (nI e))]) dX12_rings_40 (by decide) rfl ?_
                refine r_iload_n C 3 dX12_rings_42 rfl rfl ?_
                have jn73 : V pp l ee ({ frames := 1, cells := 0, slots := 0, locals := 23 } : Room) ss mm ar bw mt cd G (MQ bw (Ke G (fun v M' => v = some (.int (bI ((rgR τ q 7).testBit q))) ∧ M = M')) ar ss 0 0 (gA G)) 6 M 0 0 73 [(5, .int (bI ((rgK τ q (rgR τ q r) e).testBit e))), (0, .ref mb), (1, .int (nI q)), (2, .int (nI (rgK τ q (rgR τ q r) e))), (3, .int (nI r)), (4, .int (nI e))] [.int (nI (if (rgK τ q (rgR τ q r) e).testBit e = true ∧ e ≠ q ∧ e < un τ 26 26 then needN τ e else 0)), .int (nI (rgK τ q (rgR τ q r) e))] := by
                  skip
                  have hif : (if (rgK τ q (rgR τ q r) e).testBit e = true ∧ e ≠ q ∧ e < un τ 26 26 then needN τ e else 0) < 2 ^ 6 := by
                    split
                    · exact needN_lt hw.e (by omega)
                    · decide
                  refine r_ior C dX12_rings_73 ?_
                  refine V.ei (y := nI ((rgK τ q (rgR τ q r) e) ||| (if (rgK τ q (rgR τ q r) e).testBit e = true ∧ e ≠ q ∧ e < un τ 26 26 then needN τ e else 0))) (nI_or (by omega) (by omega)) ?_
                  refine r_istore_n C (lo' := [(2, .int (nI ((rgK τ q (rgR τ q r) e) ||| (if (rgK τ q (rgR τ q r) e).testBit e = true ∧ e ≠ q ∧ e < un τ 26 26 then needN τ e else 0)))), (5, .int (bI ((rgK τ q (rgR τ q r) e).testBit e))), (0, .ref mb), (1, .int (nI q)), (3, .int (nI r)), (4, .int (nI e))]) dX12_rings_74 rfl (by decide) rfl ?_
                  refine r_iinc C (v := nI (e + 1)) (lo' := [(4, .int (nI (e + 1))), (2, .int (nI ((rgK τ q (rgR τ q r) e) ||| (if (rgK τ q (rgR τ q r) e).testBit e = true ∧ e ≠ q ∧ e < un τ 26 26 then needN τ e else 0)))), (5, .int (bI ((rgK τ q (rgR τ q r) e).testBit e))), (0, .ref mb), (1, .int (nI q)), (3, .int (nI r))]) 5 dX12_rings_75 rfl (nI_addI e 1) (by decide) rfl ?_
                  refine r_goto C (t := 18) dX12_rings_78 (by decide) ?_
                  have jb2 : ((rgK τ q (rgR τ q r) e) ||| (if (rgK τ q (rgR τ q r) e).testBit e = true ∧ e ≠ q ∧ e < un τ 26 26 then needN τ e else 0)) = (rgK τ q (rgR τ q r) (e + 1)) := by rfl
                  refine V.eLo (lo' := [(4, .int (nI (e + 1))), (2, .int (nI (rgK τ q (rgR τ q r) (e + 1)))), (5, .int (bI ((rgK τ q (rgR τ q r) e).testBit e))), (0, .ref mb), (1, .int (nI q)), (3, .int (nI r))]) (congrArg (fun z_ => ([(4, .int (nI (e + 1))), (2, .int (nI z_)), (5, .int (bI ((rgK τ q (rgR τ q r) e).testBit e))), (0, .ref mb), (1, .int (nI q)), (3, .int (nI r))] : List (Nat × Value))) jb2) ?_
                  refine V.sub [3, 4, 1, 5, 0] (lo' := [(0, .ref mb), (1, .int (nI q)), (2, .int (nI (rgK τ q (rgR τ q r) (e + 1)))), (3, .int (nI r)), (4, .int (nI (e + 1)))]) rfl ?_
                  exact ih18 (e + 1) (by omega) (by omega)
                refine r_iload C 0 dX12_rings_43 rfl ?_
                refine r_if_eqB C (t := 72) dX12_rings_45 (by decide) (fun c45 => ?_) (fun c45 => ?_)
                · skip
                  refine r_iconst C (v := nI 0) dX12_rings_72 (by decide) ?_
                  refine V.ei (y := nI (if (rgK τ q (rgR τ q r) e).testBit e = true ∧ e ≠ q ∧ e < un τ 26 26 then needN τ e else 0)) (congrArg nI (by rw [if_neg]; intro z; rw [c45] at z; cases z.1)) ?_
                  exact jn73
                · skip
                  refine r_iload C 5 dX12_rings_48 rfl ?_
                  refine r_iload_n C 2 dX12_rings_50 rfl rfl ?_
                  refine r_icmp_eqN C (t := 72) (by omega) (by omega) dX12_rings_51 (by decide) (fun c51 => ?_) (fun c51 => ?_)
                  · skip
                    refine r_iconst C (v := nI 0) dX12_rings_72 (by decide) ?_
                    refine V.ei (y := nI (if (rgK τ q (rgR τ q r) e).testBit e = true ∧ e ≠ q ∧ e < un τ 26 26 then needN τ e else 0)) (congrArg nI (by rw [if_neg (fun z => z.2.1 c51)])) ?_
                    exact jn73
                  · skip
                    refine r_iload C 5 dX12_rings_54 rfl ?_
                    refine r_aload_n C 1 dX12_rings_56 rfl rfl ?_
                    refine r_getI C fl_X12_316 rfl hm.k dX12_rings_57 ?_
                    refine V.ei (y := nI (un τ 26 26)) ((ht.s 26 rfl).trans hw.ne.1) ?_
                    refine r_icmp_geN C (t := 72) (by omega) (by omega) dX12_rings_60 (by decide) (fun c60 => ?_) (fun c60 => ?_)
                    · skip
                      refine r_iconst C (v := nI 0) dX12_rings_72 (by decide) ?_
                      refine V.ei (y := nI (if (rgK τ q (rgR τ q r) e).testBit e = true ∧ e ≠ q ∧ e < un τ 26 26 then needN τ e else 0)) (congrArg nI (by rw [if_neg (by omega)])) ?_
                      exact jn73
                    · skip
                      refine r_aload_n C 1 dX12_rings_63 rfl rfl ?_
                      refine r_iload C 5 dX12_rings_64 rfl ?_
                      refine r_callV C hgX (ci := 14) ml_X12_313 im_X12_needs se_X12_needs rfl rfl hm.k (c_X12_needs l hfl G M mb τ hm ht hw.e e (by omega)) rfl (Nat.le_of_ble_eq_true rfl) ⟨Nat.le_of_ble_eq_true rfl, Nat.le_of_ble_eq_true rfl⟩ ⟨Nat.le_of_ble_eq_true rfl, Nat.le_of_ble_eq_true rfl⟩ dX12_rings_66 rfl ?_
                      rintro _ _ ⟨rfl, rfl⟩
                      refine V.eSt (st' := [.int (nI (needN τ e)), .int (nI (rgK τ q (rgR τ q r) e))]) rfl ?_
                      refine r_goto C (t := 73) dX12_rings_69 (by decide) ?_
                      refine V.ei (y := nI (if (rgK τ q (rgR τ q r) e).testBit e = true ∧ e ≠ q ∧ e < un τ 26 26 then needN τ e else 0)) (congrArg nI (by rw [if_pos ⟨c45, c51, by omega⟩])) ?_
                      exact jn73
              refine r_iload_n C 2 dX12_rings_25 rfl rfl ?_
              refine r_iload C 4 dX12_rings_26 rfl ?_
              refine r_ishr C dX12_rings_28 ?_
              refine V.ei (y := nI ((rgK τ q (rgR τ q r) e) / 2 ^ e)) (nI_shr (by omega) (by omega)) ?_
              refine r_iconst C (v := nI 1) dX12_rings_29 (by decide) ?_
              refine r_iand C dX12_rings_30 ?_
              refine V.ei (y := nI (((rgK τ q (rgR τ q r) e) / 2 ^ e) &&& 1)) (nI_and (by omega) (by omega)) ?_
              refine r_iconst C (v := nI 1) dX12_rings_31 (by decide) ?_
              refine r_icmp_neN C (t := 39) (by omega) (by omega) dX12_rings_32 (by decide) (fun c32 => ?_) (fun c32 => ?_)
              · skip
                refine r_iconst C (v := nI 0) dX12_rings_39 (by decide) ?_
                refine V.eSt (st' := [.int (bI false)]) rfl ?_
                refine V.ei (y := bI ((rgK τ q (rgR τ q r) e).testBit e)) (congrArg bI (by exact ((Bool.not_eq_true _).mp (fun z => c32 ((tb1 _ _).mpr z))).symm)) ?_
                exact jn40
              · skip
                refine r_iconst C (v := nI 1) dX12_rings_35 (by decide) ?_
                refine r_goto C (t := 40) dX12_rings_36 (by decide) ?_
                refine V.eSt (st' := [.int (bI true)]) rfl ?_
                refine V.ei (y := bI ((rgK τ q (rgR τ q r) e).testBit e)) (congrArg bI (by exact ((tb1 _ _).mp c32).symm)) ?_
                exact jn40
        refine V.sub [1, 2, 3, 4, 0] (lo' := [(0, .ref mb), (1, .int (nI q)), (2, .int (nI (rgR τ q r))), (3, .int (nI r)), (4, .int (nI 0))]) rfl ?_
        exact lp18 _ 0 (Nat.zero_le _) (Nat.lt_succ_self _)
  refine V.sub [2, 3, 1, 0] (lo' := [(0, .ref mb), (1, .int (nI q)), (2, .int (nI (needN τ 6))), (3, .int (nI 0))]) rfl ?_
  exact lp9 _ 0 (Nat.zero_le _) (Nat.lt_succ_self _)
