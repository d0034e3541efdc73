/-! THE REFERENCE: formulas, tables -/
theorem nI_or {a b : Nat} (ha : a < 2 ^ 31) (hb : b < 2 ^ 31) : nI a ||| nI b = nI (a ||| b) := by
  apply Int32.toBitVec_inj.mp
  apply BitVec.eq_of_toNat_eq
  have h := Nat.or_lt_two_pow ha hb
  rw [Int32.toBitVec_or, BitVec.toNat_or, pk_tn (by omega), pk_tn (by omega), pk_tn (by omega)]
theorem nI_and {a b : Nat} (ha : a < 2 ^ 31) (hb : b < 2 ^ 31) : nI a &&& nI b = nI (a &&& b) := by
  apply Int32.toBitVec_inj.mp
  apply BitVec.eq_of_toNat_eq
  have h := Nat.and_lt_two_pow a hb
  rw [Int32.toBitVec_and, BitVec.toNat_and, pk_tn (by omega), pk_tn (by omega), pk_tn (by omega)]
theorem nI_m1 {a : Nat} (h : 1 ≤ a) : nI a + (-1) = nI (a - 1) := by
  obtain ⟨q, rfl⟩ : ∃ q, a = q + 1 := ⟨a - 1, by omega⟩
  exact pk_m1 q
theorem sh_l : ∀ n, n < 32 → ((nI n &&& 31).toBitVec.smod 32).toNat = n := by decide +kernel
theorem nI_shl {a k : Nat} (hk : k < 32) (h : a * 2 ^ k < 2 ^ 32) : nI a <<< (nI k &&& 31) = nI (a * 2 ^ k) := pk_shlN _ k (sh_l k hk) h
theorem nI_shl1 {k : Nat} (hk : k < 32) : nI 1 <<< (nI k &&& 31) = nI (2 ^ k) := by
  rw [nI_shl hk (by have : 2 ^ k < 2 ^ 32 := Nat.pow_lt_pow_right (by decide) hk; omega), Nat.one_mul]
theorem nI_shr {a k : Nat} (ha : a < 2 ^ 31) (hk : k < 32) : nI a >>> (nI k &&& 31) = nI (a / 2 ^ k) := pk_shrN ha _ k (sh_l k hk)
theorem tb1 (a i : Nat) : (a / 2 ^ i &&& 1 = 1) ↔ a.testBit i = true := by
  rw [Nat.and_one_is_mod, Nat.testBit_eq_decide_div_mod_eq, decide_eq_true_iff]
theorem p2_5 {k : Nat} (h : k ≤ 5) : 2 ^ k ≤ 32 := Nat.le_trans (Nat.pow_le_pow_right (by decide) h) (by decide)
/-- what is needed of formulas alone -/
def WFe (τ : Mu) : Prop := okN τ 26 26 6 ∧ (∀ e, e < 7 → okN τ 24 e 10) ∧ (∀ e k, e < 7 → k < un τ 24 e → okN τ 22 (10 * e + k) 9) ∧ ∀ e k, e < 7 → k < un τ 24 e → un τ 22 (10 * e + k) = 2 → okN τ 23 (10 * e + k) 5
theorem WF.e {τ : Mu} (h : WF τ) : WFe τ := ⟨h.ne, h.el, h.ew, h.en⟩
theorem needK_lt {τ : Mu} (hw : WFe τ) {e : Nat} (he : e < 7) : ∀ k, k ≤ un τ 24 e → needK τ e k < 2 ^ 6
  | 0, _ => by show 0 < _; decide
  | k + 1, h => by
    refine Nat.or_lt_two_pow (needK_lt hw he k (by omega)) ?_
    split
    · rename_i z
      have := p2_5 (hw.2.2.2 e k he (by omega) z).2
      omega
    · decide
theorem needN_lt {τ : Mu} (hw : WFe τ) {e : Nat} (he : e < 7) : needN τ e < 2 ^ 6 := needK_lt hw he _ (Nat.le_refl _)
theorem fmD_le (τ : Mu) (e : Nat) : ∀ k, fmD τ e k ≤ k
  | 0 => Nat.le_refl _
  | k + 1 => by have := fmD_le τ e k; unfold fmD; split <;> omega
def keptL (v : Int64) : Int64 := if lN 100000000 < v then lN 100000000 else if v < -100000000 then -100000000 else v
def joinL (what : Nat) (a b : Int64) : Int64 := if what = 4 then a + b else if what = 5 then a - b else if what = 6 then a * b else if what = 7 then rndL (a * b) (lN 1000) else if what = 8 then (if a < b then a else b) else (if b < a then a else b)
def singL (τ : Mu) (cm : Nat → Int64) (b h : Int64) (i : Nat) : Int64 := if un τ 22 i = 0 then b else if un τ 22 i = 1 then h else if un τ 22 i = 3 then (τ.1 23 i).toInt64 else if un τ 23 i < un τ 26 26 then cm (un τ 23 i) else lN 0
/-- the pile behind k words -/
def fmP (τ : Mu) (cm : Nat → Int64) (b h : Int64) (e : Nat) : Nat → Nat → Int64
  | 0 => fun _ => 0
  | k + 1 => if un τ 22 (10 * e + k) < 4 then vp_updL (fmP τ cm b h e k) (fmD τ e k) (keptL (singL τ cm b h (10 * e + k)))
    else vp_updL (fmP τ cm b h e k) (fmD τ e k - 2) (keptL (joinL (un τ 22 (10 * e + k)) (fmP τ cm b h e k (fmD τ e k - 2)) (fmP τ cm b h e k (fmD τ e k - 1))))
def formL (τ : Mu) (cm : Nat → Int64) (b h : Int64) (e : Nat) : Int64 := fmP τ cm b h e (un τ 24 e) 0
/-- the greatest below n -/
def lstN (f : Nat → Bool) : Nat → Option Nat
  | 0 => none
  | n + 1 => if f n = true then some n else lstN f n
theorem lst_lt {f : Nat → Bool} {j : Nat} : ∀ {n : Nat}, lstN f n = some j → j < n ∧ f j = true
  | 0, h => by cases h
  | n + 1, h => by
    have h1 : (if f n = true then some n else lstN f n) = some j := h
    by_cases z : f n = true
    · rw [if_pos z] at h1; cases h1; exact ⟨by omega, z⟩
    · rw [if_neg z] at h1; have := lst_lt h1; exact ⟨by omega, this.2⟩
theorem lst_s {f : Nat → Bool} {n k : Nat} (h : ∀ j, k ≤ j → j < n → f j = false) (hk : k ≤ n) : lstN f n = lstN f k := by
  induction n with
  | zero => rw [show k = 0 by omega]
  | succ n ih =>
    by_cases e : k = n + 1
    · rw [e]
    · show (if f n = true then some n else lstN f n) = _
      rw [if_neg (by rw [h n (by omega) (by omega)]; decide), ih (fun j h1 h2 => h j h1 (by omega)) (by omega)]
def oI (o : Option Nat) : Int32 := match o with | none => -1 | some k => nI k
def hasB (τ : Mu) (r at_ k : Nat) : Bool := if r = 0 then decide (0 ≤ τ.1 31 (at_ + k)) else if r = 1 then decide (0 ≤ τ.1 36 (at_ + k)) else if r = 2 then decide (0 ≤ τ.1 37 (at_ + k)) else decide (un τ 33 (at_ + k) ≠ 0)
def lastO (τ : Mu) (r at_ m : Nat) : Option Nat := lstN (hasB τ r at_) (m + 1)
theorem lastO_le {τ : Mu} {r at_ m k : Nat} (h : lastO τ r at_ m = some k) : k ≤ m ∧ hasB τ r at_ k = true := by have := lst_lt h; exact ⟨by omega, this.2⟩
def yrLow (τ : Mu) (i : Nat) : Nat → Nat
  | 0 => 0
  | b + 1 => un τ 34 (4 * i + b)
def yrP (τ : Mu) (i b : Nat) (x : Int64) : Int64 := (if x < lN (un τ 34 (4 * i + b)) then x else lN (un τ 34 (4 * i + b))) - lN (yrLow τ i b)
def yrT (τ : Mu) (i b : Nat) (x : Int64) : Int64 := if lN 0 < yrP τ i b x then yrP τ i b x * lN (un τ 35 (4 * i + b)) / lN 1000 else lN 0
def yrS (τ : Mu) (i : Nat) (x : Int64) : Nat → Int64
  | 0 => 0
  | b + 1 => yrS τ i x b + yrT τ i b x
def yearL (τ : Mu) (at_ m : Nat) (x : Int64) : Int64 := match lastO τ 3 at_ m with | none => 0 | some k => yrS τ (at_ + k) x (un τ 33 (at_ + k))

set_option maxHeartbeats 4000000 in
set_option maxRecDepth 100000 in
theorem c_X12_holds (l : Launch) (hfl : l.flags = flags0) (G : gW) (M : Mem) (mb : Nat) (hm : MOK (mK M) (mN M) (mR M) mb) (x : Int32) : CT l yX12_holds cX12_holds 2 (some .boolean) 0 0 0 0 G M [.ref mb, .int x] (fun v M' => v = some (.int (bI (decide (0 < x)))) ∧ M' = wI M mb 67 x) := by
  refine CT.of hfl rfl (Nat.le_of_ble_eq_true rfl) ?_
  intro pp ee ss mm ar bw mt cd C hgX hr hini
  refine V.eLo (lo' := [(0, .ref mb), (1, .int x)]) rfl ?_
  refine r_aload_n C 0 dX12_holds_0 rfl rfl ?_
  refine r_iload_n C 1 dX12_holds_1 rfl rfl ?_
  refine r_putI C fl_X12_185 hm.k dX12_holds_2 ?_
  refine r_iload_n C 1 dX12_holds_5 rfl rfl ?_
  refine r_if_le C (t := 13) dX12_holds_6 (by decide) (fun c6 => ?_) (fun c6 => ?_)
  · skip
    refine r_iconst C (v := nI 0) dX12_holds_13 (by decide) ?_
    exact r_zret C hr (by decide) (⟨by rw [decide_eq_false (by exact Int32.not_lt.mpr c6)]; rfl, rfl⟩) (by first | exact Nat.zero_le _ | decide) (by first | exact Nat.zero_le _ | decide) dX12_holds_14
  · skip
    refine r_iconst C (v := nI 1) dX12_holds_9 (by decide) ?_
    refine r_goto C (t := 14) dX12_holds_10 (by decide) ?_
    exact r_zret C hr (by decide) (⟨by rw [decide_eq_true (by exact Int32.not_le.mp c6)]; rfl, rfl⟩) (by first | exact Nat.zero_le _ | decide) (by first | exact Nat.zero_le _ | decide) dX12_holds_14
set_option maxHeartbeats 4000000 in
set_option maxRecDepth 100000 in
theorem c_X12_depth (l : Launch) (hfl : l.flags = flags0) (G : gW) (M : Mem) (mb : Nat) (τ : Mu) (hm : MOK (mK M) (mN M) (mR M) mb) (ht : TE (mI M) (mL M) mb τ) (hw : WF τ) (e : Nat) (he : e < 7) (hf : fmOK τ e (un τ 24 e)) : CT l yX12_depth cX12_depth 4 (some .int) 0 0 0 0 G M [.ref mb, .int (nI e)] (fun v M' => v = some (.int (nI (fmD τ e (un τ 24 e)))) ∧ M = M') := by
  refine CT.of hfl rfl (Nat.le_of_ble_eq_true rfl) ?_
  intro pp ee ss mm ar bw mt cd C hgX hr hini
  have hnc := hw.nc.2
  have hsh := hw.sh.2
  have hnl := hw.nl.2
  have hne := hw.ne.2
  have hng := hw.ng.2
  have hop := hw.op.2
  have hnp := hw.np.2
  refine V.eLo (lo' := [(0, .ref mb), (1, .int (nI e))]) rfl ?_
  refine r_iconst C (v := nI 0) dX12_depth_0 (by decide) ?_
  refine r_istore_n C (lo' := [(2, .int (nI 0)), (0, .ref mb), (1, .int (nI e))]) dX12_depth_1 rfl (by decide) rfl ?_
  refine r_iconst C (v := nI 0) dX12_depth_2 (by decide) ?_
  refine r_istore_n C (lo' := [(3, .int (nI 0)), (2, .int (nI 0)), (0, .ref mb), (1, .int (nI e))]) dX12_depth_3 rfl (by decide) rfl ?_
  have lp4 : ∀ (k4 : Nat) (k : Nat) (hk : k ≤ un τ 24 e), un τ 24 e + 1 - k < k4 → V pp l ee ({ frames := 0, cells := 0, slots := 0, locals := 0 } : Room) ss mm ar bw mt cd G (MQ bw (Ke G (fun v M' => v = some (.int (nI (fmD τ e (un τ 24 e)))) ∧ M = M')) ar ss 0 0 (gA G)) 4 M 0 0 4 [(0, .ref mb), (1, .int (nI e)), (2, .int (nI (fmD τ e k))), (3, .int (nI k))] [] := by
    intro k4
    induction k4 with
    | zero => intro k hk hz4; exact absurd hz4 (Nat.not_lt_zero _)
    | succ k4 ih4 =>
      intro k hk hz4
      have hel := (hw.el e he).2
      have hfd := fmD_le τ e k
      refine r_iload_n C 3 dX12_depth_4 rfl rfl ?_
      refine r_aload_n C 0 dX12_depth_5 rfl rfl ?_
      refine r_getR C (b := (ma mb 24)) fl_X12_61 rfl hm.k (hm.r 24 rfl) dX12_depth_6 ?_
      refine r_iload_n C 1 dX12_depth_9 rfl rfl ?_
      refine r_ialoadN C (hm.i 24 20 rfl) (hm.n 24 7 rfl) (by omega) (by omega) dX12_depth_10 ?_
      refine V.ei (y := nI (un τ 24 e)) ((ht.i 24 rfl _).trans (hw.el e (by omega)).1) ?_
      have hb0 := (hw.el e (by omega)).2
      refine r_icmp_geN C (t := 43) (by omega) (by omega) dX12_depth_11 (by decide) (fun c11 => ?_) (fun c11 => ?_)
      · skip
        have ek : k = un τ 24 e := by omega
        subst ek
        refine r_iload_n C 2 dX12_depth_43 rfl rfl ?_
        exact r_iret C hr (⟨rfl, rfl⟩) (by first | exact Nat.zero_le _ | decide) (by first | exact Nat.zero_le _ | decide) dX12_depth_44
      · skip
        have hk1 : k < un τ 24 e := by omega
        refine r_iload_n C 2 dX12_depth_14 rfl rfl ?_
        have jn35 : V pp l ee ({ frames := 0, cells := 0, slots := 0, locals := 0 } : Room) ss mm ar bw mt cd G (MQ bw (Ke G (fun v M' => v = some (.int (nI (fmD τ e (un τ 24 e)))) ∧ M = M')) ar ss 0 0 (gA G)) 4 M 0 0 35 [(0, .ref mb), (1, .int (nI e)), (2, .int (nI (fmD τ e k))), (3, .int (nI k))] [.int (if un τ 22 (10 * e + k) < 4 then nI 1 else -1), .int (nI (fmD τ e k))] := by
          skip
          have hst : nI (fmD τ e k) + (if un τ 22 (10 * e + k) < 4 then nI 1 else -1) = nI (fmD τ e (k + 1)) := by
            show _ = nI (if un τ 22 (10 * e + k) < 4 then fmD τ e k + 1 else fmD τ e k - 1)
            by_cases z : un τ 22 (10 * e + k) < 4
            · rw [if_pos z, if_pos z, nI_add]
            · rw [if_neg z, if_neg z]
              have h2 := hf k hk1 (by omega)
              generalize fmD τ e k = q at h2
              exact nI_m1 (by omega)
          refine r_iadd C dX12_depth_35 ?_
          refine r_istore_n C (lo' := [(2, .int ((nI (fmD τ e k)) + (if un τ 22 (10 * e + k) < 4 then nI 1 else -1))), (0, .ref mb), (1, .int (nI e)), (3, .int (nI k))]) dX12_depth_36 rfl (by decide) rfl ?_
          refine r_iinc C (v := nI (k + 1)) (lo' := [(3, .int (nI (k + 1))), (2, .int ((nI (fmD τ e k)) + (if un τ 22 (10 * e + k) < 4 then nI 1 else -1))), (0, .ref mb), (1, .int (nI e))]) 3 dX12_depth_37 rfl (nI_addI k 1) (by decide) rfl ?_
          refine r_goto C (t := 4) dX12_depth_40 (by decide) ?_
          have jb2 : ((nI (fmD τ e k)) + (if un τ 22 (10 * e + k) < 4 then nI 1 else -1)) = (nI (fmD τ e (k + 1))) := by exact hst
          refine V.eLo (lo' := [(3, .int (nI (k + 1))), (2, .int (nI (fmD τ e (k + 1)))), (0, .ref mb), (1, .int (nI e))]) (congrArg (fun z_ => ([(3, .int (nI (k + 1))), (2, .int z_), (0, .ref mb), (1, .int (nI e))] : List (Nat × Value))) jb2) ?_
          refine V.sub [2, 3, 1, 0] (lo' := [(0, .ref mb), (1, .int (nI e)), (2, .int (nI (fmD τ e (k + 1)))), (3, .int (nI (k + 1)))]) rfl ?_
          exact ih4 (k + 1) (by omega) (by omega)
        refine r_aload_n C 0 dX12_depth_15 rfl rfl ?_
        refine r_getR C (b := (ma mb 22)) fl_X12_55 rfl hm.k (hm.r 22 rfl) dX12_depth_16 ?_
        refine r_bipush C (v := nI 10) dX12_depth_19 (by decide) ?_
        refine r_iload_n C 1 dX12_depth_21 rfl rfl ?_
        refine r_imulN C dX12_depth_22 ?_
        refine r_iload_n C 3 dX12_depth_23 rfl rfl ?_
        refine r_iaddN C dX12_depth_24 ?_
        refine r_ialoadN C (hm.i 22 20 rfl) (hm.n 22 70 rfl) (by omega) (by omega) dX12_depth_25 ?_
        refine V.ei (y := nI (un τ 22 (10 * e + k))) ((ht.i 22 rfl _).trans (hw.ew e k he hk1).1) ?_
        have hb1 := (hw.ew e k he hk1).2
        refine r_iconst C (v := nI 4) dX12_depth_26 (by decide) ?_
        refine r_icmp_geN C (t := 34) (by omega) (by omega) dX12_depth_27 (by decide) (fun c27 => ?_) (fun c27 => ?_)
        · skip
          refine r_iconst C (v := (-1)) dX12_depth_34 (by decide) ?_
          refine V.ei (y := if un τ 22 (10 * e + k) < 4 then nI 1 else -1) (by rw [if_neg (by omega)]) ?_
          exact jn35
        · skip
          refine r_iconst C (v := nI 1) dX12_depth_30 (by decide) ?_
          refine r_goto C (t := 35) dX12_depth_31 (by decide) ?_
          refine V.ei (y := if un τ 22 (10 * e + k) < 4 then nI 1 else -1) (by rw [if_pos (by omega)]) ?_
          exact jn35
  refine V.sub [2, 3, 1, 0] (lo' := [(0, .ref mb), (1, .int (nI e)), (2, .int (nI 0)), (3, .int (nI 0))]) rfl ?_
  exact lp4 _ 0 (Nat.zero_le _) (Nat.lt_succ_self _)
set_option maxHeartbeats 4000000 in
set_option maxRecDepth 100000 in
theorem c_X12_needs (l : Launch) (hfl : l.flags = flags0) (G : gW) (M : Mem) (mb : Nat) (τ : Mu) (hm : MOK (mK M) (mN M) (mR M) mb) (ht : TE (mI M) (mL M) mb τ) (hwe : WFe τ) (e : Nat) (he : e < 7) : CT l yX12_needs cX12_needs 4 (some .int) 0 0 0 0 G M [.ref mb, .int (nI e)] (fun v M' => v = some (.int (nI (needN τ e))) ∧ M = M') := by
  refine CT.of hfl rfl (Nat.le_of_ble_eq_true rfl) ?_
  intro pp ee ss mm ar bw mt cd C hgX hr hini
  refine V.eLo (lo' := [(0, .ref mb), (1, .int (nI e))]) rfl ?_
  refine r_iconst C (v := nI 0) dX12_needs_0 (by decide) ?_
  refine r_istore_n C (lo' := [(2, .int (nI 0)), (0, .ref mb), (1, .int (nI e))]) dX12_needs_1 rfl (by decide) rfl ?_
  refine r_iconst C (v := nI 0) dX12_needs_2 (by decide) ?_
  refine r_istore_n C (lo' := [(3, .int (nI 0)), (2, .int (nI 0)), (0, .ref mb), (1, .int (nI e))]) dX12_needs_3 rfl (by decide) rfl ?_
  have lp4 : ∀ (k4 : Nat) (k : Nat) (hk : k ≤ un τ 24 e), un τ 24 e + 1 - k < k4 → V pp l ee ({ frames := 0, cells := 0, slots := 0, locals := 0 } : Room) ss mm ar bw mt cd G (MQ bw (Ke G (fun v M' => v = some (.int (nI (needN τ e))) ∧ M = M')) ar ss 0 0 (gA G)) 4 M 0 0 4 [(0, .ref mb), (1, .int (nI e)), (2, .int (nI (needK τ e k))), (3, .int (nI k))] [] := by
    intro k4
    induction k4 with
    | zero => intro k hk hz4; exact absurd hz4 (Nat.not_lt_zero _)
    | succ k4 ih4 =>
      intro k hk hz4
      have hel := (hwe.2.1 e he).2
      have hnk := needK_lt hwe he k hk
      refine r_iload_n C 3 dX12_needs_4 rfl rfl ?_
      refine r_aload_n C 0 dX12_needs_5 rfl rfl ?_
      refine r_getR C (b := (ma mb 24)) fl_X12_61 rfl hm.k (hm.r 24 rfl) dX12_needs_6 ?_
      refine r_iload_n C 1 dX12_needs_9 rfl rfl ?_
      refine r_ialoadN C (hm.i 24 20 rfl) (hm.n 24 7 rfl) (by omega) (by omega) dX12_needs_10 ?_
      refine V.ei (y := nI (un τ 24 e)) ((ht.i 24 rfl _).trans (hwe.2.1 e he).1) ?_
      have hb0 := (hwe.2.1 e he).2
      refine r_icmp_geN C (t := 55) (by omega) (by omega) dX12_needs_11 (by decide) (fun c11 => ?_) (fun c11 => ?_)
      · skip
        have ek : k = un τ 24 e := by omega
        subst ek
        refine r_iload_n C 2 dX12_needs_55 rfl rfl ?_
        exact r_iret C hr (⟨rfl, rfl⟩) (by first | exact Nat.zero_le _ | decide) (by first | exact Nat.zero_le _ | decide) dX12_needs_56
      · skip
        have hk1 : k < un τ 24 e := by omega
        refine r_iload_n C 2 dX12_needs_14 rfl rfl ?_
        have jn47 : V pp l ee ({ frames := 0, cells := 0, slots := 0, locals := 0 } : Room) ss mm ar bw mt cd G (MQ bw (Ke G (fun v M' => v = some (.int (nI (needN τ e))) ∧ M = M')) ar ss 0 0 (gA G)) 4 M 0 0 47 [(0, .ref mb), (1, .int (nI e)), (2, .int (nI (needK τ e k))), (3, .int (nI k))] [.int (nI (if un τ 22 (10 * e + k) = 2 then 2 ^ un τ 23 (10 * e + k) else 0)), .int (nI (needK τ e k))] := by
          skip
          have hsm : (if un τ 22 (10 * e + k) = 2 then 2 ^ un τ 23 (10 * e + k) else 0) < 2 ^ 31 := by
            split
            · rename_i z
              have := p2_5 (hwe.2.2.2 e k he hk1 z).2
              omega
            · decide
          refine r_ior C dX12_needs_47 ?_
          refine V.ei (y := nI ((needK τ e k) ||| (if un τ 22 (10 * e + k) = 2 then 2 ^ un τ 23 (10 * e + k) else 0))) (nI_or (by omega) (by omega)) ?_
          refine r_istore_n C (lo' := [(2, .int (nI ((needK τ e k) ||| (if un τ 22 (10 * e + k) = 2 then 2 ^ un τ 23 (10 * e + k) else 0)))), (0, .ref mb), (1, .int (nI e)), (3, .int (nI k))]) dX12_needs_48 rfl (by decide) rfl ?_
          refine r_iinc C (v := nI (k + 1)) (lo' := [(3, .int (nI (k + 1))), (2, .int (nI ((needK τ e k) ||| (if un τ 22 (10 * e + k) = 2 then 2 ^ un τ 23 (10 * e + k) else 0)))), (0, .ref mb), (1, .int (nI e))]) 3 dX12_needs_49 rfl (nI_addI k 1) (by decide) rfl ?_
          refine r_goto C (t := 4) dX12_needs_52 (by decide) ?_
          have jb2 : ((needK τ e k) ||| (if un τ 22 (10 * e + k) = 2 then 2 ^ un τ 23 (10 * e + k) else 0)) = (needK τ e (k + 1)) := by rfl
          refine V.eLo (lo' := [(3, .int (nI (k + 1))), (2, .int (nI (needK τ e (k + 1)))), (0, .ref mb), (1, .int (nI e))]) (congrArg (fun z_ => ([(3, .int (nI (k + 1))), (2, .int (nI z_)), (0, .ref mb), (1, .int (nI e))] : List (Nat × Value))) jb2) ?_
          refine V.sub [2, 3, 1, 0] (lo' := [(0, .ref mb), (1, .int (nI e)), (2, .int (nI (needK τ e (k + 1)))), (3, .int (nI (k + 1)))]) rfl ?_
          exact ih4 (k + 1) (by omega) (by omega)
        refine r_aload_n C 0 dX12_needs_15 rfl rfl ?_
        refine r_getR C (b := (ma mb 22)) fl_X12_55 rfl hm.k (hm.r 22 rfl) dX12_needs_16 ?_
        refine r_bipush C (v := nI 10) dX12_needs_19 (by decide) ?_
        refine r_iload_n C 1 dX12_needs_21 rfl rfl ?_
        refine r_imulN C dX12_needs_22 ?_
        refine r_iload_n C 3 dX12_needs_23 rfl rfl ?_
        refine r_iaddN C dX12_needs_24 ?_
        refine r_ialoadN C (hm.i 22 20 rfl) (hm.n 22 70 rfl) (by omega) (by omega) dX12_needs_25 ?_
        refine V.ei (y := nI (un τ 22 (10 * e + k))) ((ht.i 22 rfl _).trans (hwe.2.2.1 e k he hk1).1) ?_
        have hb2 := (hwe.2.2.1 e k he hk1).2
        refine r_iconst C (v := nI 2) dX12_needs_26 (by decide) ?_
        refine r_icmp_neN C (t := 46) (by omega) (by omega) dX12_needs_27 (by decide) (fun c27 => ?_) (fun c27 => ?_)
        · skip
          refine r_iconst C (v := nI 0) dX12_needs_46 (by decide) ?_
          refine V.ei (y := nI (if un τ 22 (10 * e + k) = 2 then 2 ^ un τ 23 (10 * e + k) else 0)) (congrArg nI (by rw [if_neg c27])) ?_
          exact jn47
        · skip
          refine r_iconst C (v := nI 1) dX12_needs_30 (by decide) ?_
          refine r_aload_n C 0 dX12_needs_31 rfl rfl ?_
          refine r_getR C (b := (ma mb 23)) fl_X12_58 rfl hm.k (hm.r 23 rfl) dX12_needs_32 ?_
          refine r_bipush C (v := nI 10) dX12_needs_35 (by decide) ?_
          refine r_iload_n C 1 dX12_needs_37 rfl rfl ?_
          refine r_imulN C dX12_needs_38 ?_
          refine r_iload_n C 3 dX12_needs_39 rfl rfl ?_
          refine r_iaddN C dX12_needs_40 ?_
          refine r_ialoadN C (hm.i 23 20 rfl) (hm.n 23 70 rfl) (by omega) (by omega) dX12_needs_41 ?_
          refine V.ei (y := nI (un τ 23 (10 * e + k))) ((ht.i 23 rfl _).trans (hwe.2.2.2 e k he hk1 c27).1) ?_
          have hb3 := (hwe.2.2.2 e k he hk1 c27).2
          refine r_ishl C dX12_needs_42 ?_
          refine V.ei (y := nI (2 ^ (un τ 23 (10 * e + k)))) (nI_shl1 (by omega)) ?_
          refine r_goto C (t := 47) dX12_needs_43 (by decide) ?_
          refine V.ei (y := nI (if un τ 22 (10 * e + k) = 2 then 2 ^ un τ 23 (10 * e + k) else 0)) (congrArg nI (by rw [if_pos c27])) ?_
          exact jn47
  refine V.sub [2, 3, 1, 0] (lo' := [(0, .ref mb), (1, .int (nI e)), (2, .int (nI 0)), (3, .int (nI 0))]) rfl ?_
  exact lp4 _ 0 (Nat.zero_le _) (Nat.lt_succ_self _)
set_option maxHeartbeats 4000000 in
set_option maxRecDepth 100000 in
theorem c_X12_kept (l : Launch) (hfl : l.flags = flags0) (G : gW) (M : Mem) (mb : Nat) (x : Int64) : CT l yX12_kept cX12_kept 3 (some .long) 0 0 0 0 G M [.ref mb, .long x] (fun v M' => v = some (.long (keptL x)) ∧ M = M') := by
  refine CT.of hfl rfl (Nat.le_of_ble_eq_true rfl) ?_
  intro pp ee ss mm ar bw mt cd C hgX hr hini
  refine V.eLo (lo' := [(0, .ref mb), (1, .long x)]) rfl ?_
  refine r_lload_n C 1 dX12_kept_0 rfl rfl ?_
  refine r_ldc2 C (v := 100000000) kl_X12_327 dX12_kept_1 ?_
  refine V.el (y := lN 100000000) (by decide) ?_
  refine r_lcmp_le C (t := 14) dX12_kept_4 dX12_kept_5 (by decide) (fun c5 => ?_) (fun c5 => ?_)
  · skip
    refine r_lload_n C 1 dX12_kept_14 rfl rfl ?_
    refine r_ldc2 C (v := (-100000000)) kl_X12_329 dX12_kept_15 ?_
    refine r_lcmp_ge C (t := 28) dX12_kept_18 dX12_kept_19 (by decide) (fun c19 => ?_) (fun c19 => ?_)
    · skip
      refine r_lload_n C 1 dX12_kept_28 rfl rfl ?_
      exact r_lret C hr (⟨by unfold keptL; rw [if_neg (by simp only [Int64.lt_iff_toInt_lt, Int64.le_iff_toInt_le] at *; omega), if_neg (by simp only [Int64.lt_iff_toInt_lt, Int64.le_iff_toInt_le] at *; omega)], rfl⟩) (by first | exact Nat.zero_le _ | decide) (by first | exact Nat.zero_le _ | decide) dX12_kept_29
    · skip
      refine r_ldc2 C (v := (-100000000)) kl_X12_329 dX12_kept_22 ?_
      refine r_goto C (t := 29) dX12_kept_25 (by decide) ?_
      exact r_lret C hr (⟨by unfold keptL; rw [if_neg (by simp only [Int64.lt_iff_toInt_lt, Int64.le_iff_toInt_le] at *; omega), if_pos (by simp only [Int64.lt_iff_toInt_lt, Int64.le_iff_toInt_le] at *; omega)], rfl⟩) (by first | exact Nat.zero_le _ | decide) (by first | exact Nat.zero_le _ | decide) dX12_kept_29
  · skip
    refine r_ldc2 C (v := 100000000) kl_X12_327 dX12_kept_8 ?_
    refine V.el (y := lN 100000000) (by decide) ?_
    refine r_goto C (t := 29) dX12_kept_11 (by decide) ?_
    exact r_lret C hr (⟨by unfold keptL; rw [if_pos (by simp only [Int64.lt_iff_toInt_lt, Int64.le_iff_toInt_le] at *; omega)], rfl⟩) (by first | exact Nat.zero_le _ | decide) (by first | exact Nat.zero_le _ | decide) dX12_kept_29
set_option maxHeartbeats 4000000 in
set_option maxRecDepth 100000 in
theorem c_X12_joined (l : Launch) (hfl : l.flags = flags0) (G : gW) (M : Mem) (mb : Nat) (hm : MOK (mK M) (mN M) (mR M) mb) (w : Nat) (hwb : w ≤ 9) (x y : Int64) : CT l yX12_joined cX12_joined 6 (some .long) 2 0 0 50 G M [.ref mb, .int (nI w), .long x, .long y] (fun v M' => v = some (.long (joinL w x y)) ∧ M = M') := by
  refine CT.of hfl rfl (Nat.le_of_ble_eq_true rfl) ?_
  intro pp ee ss mm ar bw mt cd C hgX hr hini
  refine V.eLo (lo' := [(0, .ref mb), (1, .int (nI w)), (2, .long x), (4, .long y)]) rfl ?_
  refine r_iload_n C 1 dX12_joined_0 rfl rfl ?_
  refine r_iconst C (v := nI 4) dX12_joined_1 (by decide) ?_
  refine r_icmp_neN C (t := 12) (by omega) (by omega) dX12_joined_2 (by decide) (fun c2 => ?_) (fun c2 => ?_)
  · skip
    refine r_iload_n C 1 dX12_joined_12 rfl rfl ?_
    refine r_iconst C (v := nI 5) dX12_joined_13 (by decide) ?_
    refine r_icmp_neN C (t := 24) (by omega) (by omega) dX12_joined_14 (by decide) (fun c14 => ?_) (fun c14 => ?_)
    · skip
      refine r_iload_n C 1 dX12_joined_24 rfl rfl ?_
      refine r_bipush C (v := nI 6) dX12_joined_25 (by decide) ?_
      refine r_icmp_neN C (t := 37) (by omega) (by omega) dX12_joined_27 (by decide) (fun c27 => ?_) (fun c27 => ?_)
      · skip
        refine r_iload_n C 1 dX12_joined_37 rfl rfl ?_
        refine r_bipush C (v := nI 7) dX12_joined_38 (by decide) ?_
        refine r_icmp_neN C (t := 57) (by omega) (by omega) dX12_joined_40 (by decide) (fun c40 => ?_) (fun c40 => ?_)
        · skip
          refine r_iload_n C 1 dX12_joined_57 rfl rfl ?_
          refine r_bipush C (v := nI 8) dX12_joined_58 (by decide) ?_
          refine r_icmp_neN C (t := 79) (by omega) (by omega) dX12_joined_60 (by decide) (fun c60 => ?_) (fun c60 => ?_)
          · skip
            refine r_lload_n C 2 dX12_joined_79 rfl rfl ?_
            refine r_lload C 3 dX12_joined_80 rfl ?_
            refine r_lcmp_le C (t := 90) dX12_joined_82 dX12_joined_83 (by decide) (fun c83 => ?_) (fun c83 => ?_)
            · skip
              refine r_lload C 3 dX12_joined_90 rfl ?_
              exact r_lret C hr (⟨by unfold joinL; rw [if_neg c2, if_neg c14, if_neg c27, if_neg c40, if_neg c60, if_neg (by simp only [Int64.lt_iff_toInt_lt, Int64.le_iff_toInt_le] at *; omega)], rfl⟩) (by first | exact Nat.zero_le _ | decide) (by first | exact Nat.zero_le _ | decide) dX12_joined_92
            · skip
              refine r_lload_n C 2 dX12_joined_86 rfl rfl ?_
              refine r_goto C (t := 92) dX12_joined_87 (by decide) ?_
              exact r_lret C hr (⟨by unfold joinL; rw [if_neg c2, if_neg c14, if_neg c27, if_neg c40, if_neg c60, if_pos (by simp only [Int64.lt_iff_toInt_lt, Int64.le_iff_toInt_le] at *; omega)], rfl⟩) (by first | exact Nat.zero_le _ | decide) (by first | exact Nat.zero_le _ | decide) dX12_joined_92
          · skip
            refine r_lload_n C 2 dX12_joined_63 rfl rfl ?_
            refine r_lload C 3 dX12_joined_64 rfl ?_
            refine r_lcmp_ge C (t := 74) dX12_joined_66 dX12_joined_67 (by decide) (fun c67 => ?_) (fun c67 => ?_)
            · skip
              refine r_lload C 3 dX12_joined_74 rfl ?_
              refine r_goto C (t := 92) dX12_joined_76 (by decide) ?_
              exact r_lret C hr (⟨by unfold joinL; rw [if_neg c2, if_neg c14, if_neg c27, if_neg c40, if_pos c60, if_neg (by simp only [Int64.lt_iff_toInt_lt, Int64.le_iff_toInt_le] at *; omega)], rfl⟩) (by first | exact Nat.zero_le _ | decide) (by first | exact Nat.zero_le _ | decide) dX12_joined_92
            · skip
              refine r_lload_n C 2 dX12_joined_70 rfl rfl ?_
              refine r_goto C (t := 92) dX12_joined_71 (by decide) ?_
              exact r_lret C hr (⟨by unfold joinL; rw [if_neg c2, if_neg c14, if_neg c27, if_neg c40, if_pos c60, if_pos (by simp only [Int64.lt_iff_toInt_lt, Int64.le_iff_toInt_le] at *; omega)], rfl⟩) (by first | exact Nat.zero_le _ | decide) (by first | exact Nat.zero_le _ | decide) dX12_joined_92
        · skip
          refine r_aload_n C 0 dX12_joined_43 rfl rfl ?_
          refine r_lload_n C 2 dX12_joined_44 rfl rfl ?_
          refine r_lload C 3 dX12_joined_45 rfl ?_
          refine r_lmul C dX12_joined_47 ?_
          refine r_ldc2 C (v := 1000) kl_X12_331 dX12_joined_48 ?_
          refine V.el (y := lN 1000) (by decide) ?_
          refine r_callV C hgX (ci := 14) ml_X12_261 im_X12_round se_X12_round rfl rfl hm.k (c_X12_round l hfl G M mb hm (x * y) (lN 1000) (by decide)) rfl (Nat.le_of_ble_eq_true rfl) ⟨Nat.le_of_ble_eq_true rfl, Nat.le_of_ble_eq_true rfl⟩ ⟨Nat.le_of_ble_eq_true rfl, Nat.le_of_ble_eq_true rfl⟩ dX12_joined_51 rfl ?_
          rintro _ _ ⟨rfl, rfl⟩
          refine V.eSt (st' := [.long (rndL (x * y) (lN 1000))]) rfl ?_
          refine r_goto C (t := 92) dX12_joined_54 (by decide) ?_
          exact r_lret C hr (⟨by unfold joinL; rw [if_neg c2, if_neg c14, if_neg c27, if_pos c40], rfl⟩) (by first | exact Nat.zero_le _ | decide) (by first | exact Nat.zero_le _ | decide) dX12_joined_92
      · skip
        refine r_lload_n C 2 dX12_joined_30 rfl rfl ?_
        refine r_lload C 3 dX12_joined_31 rfl ?_
        refine r_lmul C dX12_joined_33 ?_
        refine r_goto C (t := 92) dX12_joined_34 (by decide) ?_
        exact r_lret C hr (⟨by unfold joinL; rw [if_neg c2, if_neg c14, if_pos c27], rfl⟩) (by first | exact Nat.zero_le _ | decide) (by first | exact Nat.zero_le _ | decide) dX12_joined_92
    · skip
      refine r_lload_n C 2 dX12_joined_17 rfl rfl ?_
      refine r_lload C 3 dX12_joined_18 rfl ?_
      refine r_lsub C dX12_joined_20 ?_
      refine r_goto C (t := 92) dX12_joined_21 (by decide) ?_
      exact r_lret C hr (⟨by unfold joinL; rw [if_neg c2, if_pos c14], rfl⟩) (by first | exact Nat.zero_le _ | decide) (by first | exact Nat.zero_le _ | decide) dX12_joined_92
  · skip
    refine r_lload_n C 2 dX12_joined_5 rfl rfl ?_
    refine r_lload C 3 dX12_joined_6 rfl ?_
    refine r_ladd C dX12_joined_8 ?_
    refine r_goto C (t := 92) dX12_joined_9 (by decide) ?_
    exact r_lret C hr (⟨by unfold joinL; rw [if_pos c2], rfl⟩) (by first | exact Nat.zero_le _ | decide) (by first | exact Nat.zero_le _ | decide) dX12_joined_92
