/-! THE REFERENCE: contributions, taxes -/
def sumL (f : Nat → Int64) : Nat → Int64
  | 0 => 0
  | n + 1 => sumL f n + f n
theorem sumL_cg {f g : Nat → Int64} : ∀ {n : Nat}, (∀ i, i < n → f i = g i) → sumL f n = sumL g n
  | 0, _ => rfl
  | n + 1, h => by show sumL f n + f n = sumL g n + g n; rw [sumL_cg (n := n) (fun i hi => h i (by omega)), h n (by omega)]
def yF (r : Nat) : Nat := if r = 0 then 55 else if r = 1 then 56 else if r = 2 then 58 else 59
/-- the sum of a row over the months of the year ahead of m -/
def ysL (M : Mem) (mb k m pl : Nat) : Int64 := sumL (fun i => mL M (ma mb k) (3 * (m / 12 * 12 + i) + pl)) (m % 12)
theorem ysL_cg {M M' : Mem} {mb k m pl : Nat} (h : ∀ j, j < m % 12 → mL M' (ma mb k) (3 * (m / 12 * 12 + j) + pl) = mL M (ma mb k) (3 * (m / 12 * 12 + j) + pl)) : ysL M' mb k m pl = ysL M mb k m pl := sumL_cg h
def mnL (a b : Int64) : Int64 := if a < b then a else b
def pzL (a : Int64) : Int64 := if lN 0 < a then a else lN 0
def ceilN (τ : Mu) (pl m : Nat) : Nat := match lastO τ 0 (24 * pl) m with | none => 0 | some k => un τ 32 (24 * pl + k)
def crN (τ : Mu) (pl m : Nat) : Nat := match lastO τ 0 (24 * pl) m with | none => 0 | some k => un τ 31 (24 * pl + k)
def stN (τ : Mu) (p m : Nat) : Nat := match lastO τ 1 (24 * p) m with | none => 0 | some k => un τ 36 (24 * p + k)
def ptN (τ : Mu) (p m : Nat) : Nat := match lastO τ 2 (24 * p) m with | none => 0 | some k => un τ 37 (24 * p + k)
def ctM (τ : Mu) (pl m : Nat) (a b : Int64) : Int64 := pzL (mnL a (lN (ceilN τ pl m)) - b)
def dueM (τ : Mu) (p pl m : Nat) (a : Int64) : Int64 := yearL τ (48 * pl + 24 * stN τ p m) m (pzL a * lN 12 / lN (m % 12 + 1)) * lN (m % 12 + 1) / lN 12
theorem oI_some {o : Option Nat} (h : 0 ≤ oI o) : ∃ k, o = some k := by
  cases o with
  | none => exact absurd h (by decide)
  | some k => exact ⟨k, rfl⟩
theorem oI_none {o : Option Nat} (hk : ∀ k, o = some k → k < 2 ^ 31) (h : ¬ 0 ≤ oI o) : o = none := by
  cases o with
  | none => rfl
  | some k => exact absurd (nI_pos' (hk k rfl)) h
theorem lastO_b {τ : Mu} {r a m : Nat} (hm : m < 24) : ∀ k, lastO τ r a m = some k → k < 2 ^ 31 := fun k h => by have := (lastO_le h).1; omega
theorem hasB0 {τ : Mu} (hw : WF τ) {a k : Nat} (ha : a + k < 72) (h : hasB τ 0 a k = true) : okN τ 31 (a + k) 500 := by
  have h1 : 0 ≤ τ.1 31 (a + k) := of_decide_eq_true h
  rcases hw.cr _ ha with h2 | h2
  · rw [h2] at h1; exact absurd h1 (by decide)
  · exact h2
theorem hasB1 {τ : Mu} (hw : WF τ) {a k : Nat} (ha : a + k < 144) (h : hasB τ 1 a k = true) : okN τ 36 (a + k) 1 := by
  have h1 : 0 ≤ τ.1 36 (a + k) := of_decide_eq_true h
  rcases hw.st _ ha with h2 | h2
  · rw [h2] at h1; exact absurd h1 (by decide)
  · exact h2
theorem hasB2 {τ : Mu} (hw : WF τ) {a k : Nat} (ha : a + k < 144) (h : hasB τ 2 a k = true) : okN τ 37 (a + k) 200 := by
  have h1 : 0 ≤ τ.1 37 (a + k) := of_decide_eq_true h
  rcases hw.pt _ ha with h2 | h2
  · rw [h2] at h1; exact absurd h1 (by decide)
  · exact h2
theorem crN_le {τ : Mu} (hw : WF τ) {pl m : Nat} (hp : pl < 3) (hm : m < 24) : crN τ pl m ≤ 500 := by
  unfold crN
  cases h : lastO τ 0 (24 * pl) m with
  | none => exact Nat.zero_le _
  | some k => exact (hasB0 hw (by have := (lastO_le h).1; omega) (lastO_le h).2).2
theorem ceilN_le {τ : Mu} (hw : WF τ) {pl m : Nat} (hp : pl < 3) (hm : m < 24) : ceilN τ pl m ≤ 100000000 := by
  unfold ceilN
  cases h : lastO τ 0 (24 * pl) m with
  | none => exact Nat.zero_le _
  | some k => exact (hw.cc _ (by have := (lastO_le h).1; omega)).2
theorem stN_le {τ : Mu} (hw : WF τ) {p m : Nat} (hp : p < 6) (hm : m < 24) : stN τ p m ≤ 1 := by
  unfold stN
  cases h : lastO τ 1 (24 * p) m with
  | none => exact Nat.zero_le _
  | some k => exact (hasB1 hw (by have := (lastO_le h).1; omega) (lastO_le h).2).2
theorem ptN_le {τ : Mu} (hw : WF τ) {p m : Nat} (hp : p < 6) (hm : m < 24) : ptN τ p m ≤ 200 := by
  unfold ptN
  cases h : lastO τ 2 (24 * p) m with
  | none => exact Nat.zero_le _
  | some k => exact (hasB2 hw (by have := (lastO_le h).1; omega) (lastO_le h).2).2

set_option maxHeartbeats 4000000 in
set_option maxRecDepth 100000 in
theorem c_X12_yearSum (l : Launch) (hfl : l.flags = flags0) (G : gW) (M : Mem) (mb : Nat) (hm : MOK (mK M) (mN M) (mR M) mb) (r m q : Nat) (hr3 : r < 4) (hmn : m < 24) (hq : q < 3) : CT l yX12_yearSum cX12_yearSum 7 (some .long) 0 0 0 0 G M [.ref mb, .int (nI r), .int (nI m), .int (nI q)] (fun v M' => v = some (.long (ysL M mb (yF r) m q)) ∧ M = M') := by
  refine CT.of hfl rfl (Nat.le_of_ble_eq_true rfl) ?_
  intro pp ee ss mm ar bw mt cd C hgX hr hini
  refine V.eLo (lo' := [(0, .ref mb), (1, .int (nI r)), (2, .int (nI m)), (3, .int (nI q))]) rfl ?_
  refine r_lconst C (v := lN 0) dX12_yearSum_0 (by decide) ?_
  refine r_lstore C (lo' := [(4, .long (lN 0)), (0, .ref mb), (1, .int (nI r)), (2, .int (nI m)), (3, .int (nI q))]) dX12_yearSum_1 (by decide) rfl ?_
  refine r_iload_n C 3 dX12_yearSum_3 rfl rfl ?_
  refine r_bipush C (v := nI 12) dX12_yearSum_4 (by decide) ?_
  refine r_idivN C (by omega) (by omega) (by omega) dX12_yearSum_6 ?_
  refine r_bipush C (v := nI 12) dX12_yearSum_7 (by decide) ?_
  refine r_imulN C dX12_yearSum_9 ?_
  refine r_istore C (lo' := [(6, .int (nI ((m / 12) * 12))), (4, .long (lN 0)), (0, .ref mb), (1, .int (nI r)), (2, .int (nI m)), (3, .int (nI q))]) dX12_yearSum_10 (by decide) rfl ?_
  have lp12 : ∀ (k12 : Nat) (j : Nat) (hj : j ≤ m % 12), m % 12 + 1 - j < k12 → V pp l ee ({ frames := 0, cells := 0, slots := 0, locals := 0 } : Room) ss mm ar bw mt cd G (MQ bw (Ke G (fun v M' => v = some (.long (ysL M mb (yF r) m q)) ∧ M = M')) ar ss 0 0 (gA G)) 7 M 0 0 12 [(0, .ref mb), (1, .int (nI r)), (2, .int (nI m)), (3, .int (nI q)), (4, .long (sumL (fun i => mL M (ma mb (yF r)) (3 * (m / 12 * 12 + i) + q)) j)), (6, .int (nI (m / 12 * 12 + j)))] [] := by
    intro k12
    induction k12 with
    | zero => intro j hj hz12; exact absurd hz12 (Nat.not_lt_zero _)
    | succ k12 ih12 =>
      intro j hj hz12
      refine r_iload C 5 dX12_yearSum_12 rfl ?_
      refine r_iload_n C 2 dX12_yearSum_14 rfl rfl ?_
      refine r_icmp_geN C (t := 96) (by omega) (by omega) dX12_yearSum_15 (by decide) (fun c15 => ?_) (fun c15 => ?_)
      · skip
        have ej : j = m % 12 := by omega
        subst ej
        refine r_lload C 4 dX12_yearSum_96 rfl ?_
        exact r_lret C hr (⟨rfl, rfl⟩) (by first | exact Nat.zero_le _ | decide) (by first | exact Nat.zero_le _ | decide) dX12_yearSum_98
      · skip
        refine r_lload C 4 dX12_yearSum_18 rfl ?_
        have jn87 : V pp l ee ({ frames := 0, cells := 0, slots := 0, locals := 0 } : Room) ss mm ar bw mt cd G (MQ bw (Ke G (fun v M' => v = some (.long (ysL M mb (yF r) m q)) ∧ M = M')) ar ss 0 0 (gA G)) 7 M 0 0 87 [(0, .ref mb), (1, .int (nI r)), (2, .int (nI m)), (3, .int (nI q)), (4, .long (sumL (fun i => mL M (ma mb (yF r)) (3 * (m / 12 * 12 + i) + q)) j)), (6, .int (nI (m / 12 * 12 + j)))] [.long (mL M (ma mb (yF r)) (3 * (m / 12 * 12 + j) + q)), .long (sumL (fun i => mL M (ma mb (yF r)) (3 * (m / 12 * 12 + i) + q)) j)] := by
          skip
          refine r_ladd C dX12_yearSum_87 ?_
          refine r_lstore C (lo' := [(4, .long ((sumL (fun i => mL M (ma mb (yF r)) (3 * (m / 12 * 12 + i) + q)) j) + (mL M (ma mb (yF r)) (3 * (m / 12 * 12 + j) + q)))), (0, .ref mb), (1, .int (nI r)), (2, .int (nI m)), (3, .int (nI q)), (6, .int (nI (m / 12 * 12 + j)))]) dX12_yearSum_88 (by decide) rfl ?_
          refine r_iinc C (v := nI (m / 12 * 12 + j + 1)) (lo' := [(6, .int (nI (m / 12 * 12 + j + 1))), (4, .long ((sumL (fun i => mL M (ma mb (yF r)) (3 * (m / 12 * 12 + i) + q)) j) + (mL M (ma mb (yF r)) (3 * (m / 12 * 12 + j) + q)))), (0, .ref mb), (1, .int (nI r)), (2, .int (nI m)), (3, .int (nI q))]) 5 dX12_yearSum_90 rfl (nI_addI (m / 12 * 12 + j) 1) (by decide) rfl ?_
          refine r_goto C (t := 12) dX12_yearSum_93 (by decide) ?_
          have jb4 : ((sumL (fun i => mL M (ma mb (yF r)) (3 * (m / 12 * 12 + i) + q)) j) + (mL M (ma mb (yF r)) (3 * (m / 12 * 12 + j) + q))) = (sumL (fun i => mL M (ma mb (yF r)) (3 * (m / 12 * 12 + i) + q)) (j + 1)) := by rfl
          refine V.eLo (lo' := [(6, .int (nI (m / 12 * 12 + j + 1))), (4, .long (sumL (fun i => mL M (ma mb (yF r)) (3 * (m / 12 * 12 + i) + q)) (j + 1))), (0, .ref mb), (1, .int (nI r)), (2, .int (nI m)), (3, .int (nI q))]) (congrArg (fun z_ => ([(6, .int (nI (m / 12 * 12 + j + 1))), (4, .long z_), (0, .ref mb), (1, .int (nI r)), (2, .int (nI m)), (3, .int (nI q))] : List (Nat × Value))) jb4) ?_
          refine V.sub [2, 3, 4, 5, 1, 0] (lo' := [(0, .ref mb), (1, .int (nI r)), (2, .int (nI m)), (3, .int (nI q)), (4, .long (sumL (fun i => mL M (ma mb (yF r)) (3 * (m / 12 * 12 + i) + q)) (j + 1))), (6, .int (nI (m / 12 * 12 + j + 1)))]) rfl ?_
          exact ih12 (j + 1) (by omega) (by omega)
        refine r_iload_n C 1 dX12_yearSum_20 rfl rfl ?_
        refine r_if_neN C (t := 38) (by omega) dX12_yearSum_21 (by decide) (fun c21 => ?_) (fun c21 => ?_)
        · skip
          refine r_iload_n C 1 dX12_yearSum_38 rfl rfl ?_
          refine r_iconst C (v := nI 1) dX12_yearSum_39 (by decide) ?_
          refine r_icmp_neN C (t := 57) (by omega) (by omega) dX12_yearSum_40 (by decide) (fun c40 => ?_) (fun c40 => ?_)
          · skip
            refine r_iload_n C 1 dX12_yearSum_57 rfl rfl ?_
            refine r_iconst C (v := nI 2) dX12_yearSum_58 (by decide) ?_
            refine r_icmp_neN C (t := 76) (by omega) (by omega) dX12_yearSum_59 (by decide) (fun c59 => ?_) (fun c59 => ?_)
            · skip
              refine r_aload_n C 0 dX12_yearSum_76 rfl rfl ?_
              refine r_getR C (b := (ma mb 59)) fl_X12_155 rfl hm.k (hm.r 59 rfl) dX12_yearSum_77 ?_
              refine r_iconst C (v := nI 3) dX12_yearSum_80 (by decide) ?_
              refine r_iload C 5 dX12_yearSum_81 rfl ?_
              refine r_imulN C dX12_yearSum_83 ?_
              refine r_iload_n C 3 dX12_yearSum_84 rfl rfl ?_
              refine r_iaddN C dX12_yearSum_85 ?_
              refine r_laloadN C (hm.i 59 21 rfl) (hm.n 59 72 rfl) (by omega) (by omega) dX12_yearSum_86 ?_
              refine V.el (y := mL M (ma mb (yF r)) (3 * (m / 12 * 12 + j) + q)) (by rw [show yF r = 59 from (if_neg c21).trans ((if_neg c40).trans (if_neg c59))]) ?_
              exact jn87
            · skip
              refine r_aload_n C 0 dX12_yearSum_62 rfl rfl ?_
              refine r_getR C (b := (ma mb 58)) fl_X12_152 rfl hm.k (hm.r 58 rfl) dX12_yearSum_63 ?_
              refine r_iconst C (v := nI 3) dX12_yearSum_66 (by decide) ?_
              refine r_iload C 5 dX12_yearSum_67 rfl ?_
              refine r_imulN C dX12_yearSum_69 ?_
              refine r_iload_n C 3 dX12_yearSum_70 rfl rfl ?_
              refine r_iaddN C dX12_yearSum_71 ?_
              refine r_laloadN C (hm.i 58 21 rfl) (hm.n 58 72 rfl) (by omega) (by omega) dX12_yearSum_72 ?_
              refine r_goto C (t := 87) dX12_yearSum_73 (by decide) ?_
              refine V.el (y := mL M (ma mb (yF r)) (3 * (m / 12 * 12 + j) + q)) (by rw [show yF r = 58 from (if_neg c21).trans ((if_neg c40).trans (if_pos c59))]) ?_
              exact jn87
          · skip
            refine r_aload_n C 0 dX12_yearSum_43 rfl rfl ?_
            refine r_getR C (b := (ma mb 56)) fl_X12_146 rfl hm.k (hm.r 56 rfl) dX12_yearSum_44 ?_
            refine r_iconst C (v := nI 3) dX12_yearSum_47 (by decide) ?_
            refine r_iload C 5 dX12_yearSum_48 rfl ?_
            refine r_imulN C dX12_yearSum_50 ?_
            refine r_iload_n C 3 dX12_yearSum_51 rfl rfl ?_
            refine r_iaddN C dX12_yearSum_52 ?_
            refine r_laloadN C (hm.i 56 21 rfl) (hm.n 56 72 rfl) (by omega) (by omega) dX12_yearSum_53 ?_
            refine r_goto C (t := 87) dX12_yearSum_54 (by decide) ?_
            refine V.el (y := mL M (ma mb (yF r)) (3 * (m / 12 * 12 + j) + q)) (by rw [show yF r = 56 from (if_neg c21).trans (if_pos c40)]) ?_
            exact jn87
        · skip
          refine r_aload_n C 0 dX12_yearSum_24 rfl rfl ?_
          refine r_getR C (b := (ma mb 55)) fl_X12_143 rfl hm.k (hm.r 55 rfl) dX12_yearSum_25 ?_
          refine r_iconst C (v := nI 3) dX12_yearSum_28 (by decide) ?_
          refine r_iload C 5 dX12_yearSum_29 rfl ?_
          refine r_imulN C dX12_yearSum_31 ?_
          refine r_iload_n C 3 dX12_yearSum_32 rfl rfl ?_
          refine r_iaddN C dX12_yearSum_33 ?_
          refine r_laloadN C (hm.i 55 21 rfl) (hm.n 55 72 rfl) (by omega) (by omega) dX12_yearSum_34 ?_
          refine r_goto C (t := 87) dX12_yearSum_35 (by decide) ?_
          refine V.el (y := mL M (ma mb (yF r)) (3 * (m / 12 * 12 + j) + q)) (by rw [show yF r = 55 from if_pos c21]) ?_
          exact jn87
  refine V.sub [2, 3, 4, 5, 1, 0] (lo' := [(0, .ref mb), (1, .int (nI r)), (2, .int (nI m)), (3, .int (nI q)), (4, .long (lN 0)), (6, .int (nI ((m / 12) * 12)))]) rfl ?_
  exact lp12 _ 0 (Nat.zero_le _) (Nat.lt_succ_self _)
set_option maxHeartbeats 4000000 in
set_option maxRecDepth 100000 in
theorem c_X12_contribute (l : Launch) (hfl : l.flags = flags0) (G : gW) (M : Mem) (mb : Nat) (τ : Mu) (hm : MOK (mK M) (mN M) (mR M) mb) (ht : TE (mI M) (mL M) mb τ) (hw : WF τ) (m q : Nat) (hmn : m < 24) (hq : q < 3) : CT l yX12_contribute cX12_contribute 11 none 2 0 0 50 G M [.ref mb, .int (nI m), .int (nI q)] (fun v M' => v = none ∧ fOut [56, 57] mb M M' ∧ mL M' (ma mb 56) (3 * m + q) = ctM τ q m (ysL M mb 55 m q + mL M (ma mb 55) (3 * m + q)) (ysL M mb 56 m q) ∧ mL M' (ma mb 57) (3 * m + q) = rndL (ctM τ q m (ysL M mb 55 m q + mL M (ma mb 55) (3 * m + q)) (ysL M mb 56 m q) * lN (crN τ q m)) (lN 1000) ∧ (∀ i, i ≠ 3 * m + q → mL M' (ma mb 56) i = mL M (ma mb 56) i) ∧ (∀ i, i ≠ 3 * m + q → mL M' (ma mb 57) i = mL M (ma mb 57) i)) := by
  refine CT.of hfl rfl (Nat.le_of_ble_eq_true rfl) ?_
  intro pp ee ss mm ar bw mt cd C hgX hr hini
  have hnc := hw.nc.2
  have hsh := hw.sh.2
  have hnl := hw.nl.2
  have hne := hw.ne.2
  have hng := hw.ng.2
  have hop := hw.op.2
  have hnp := hw.np.2
  refine V.eLo (lo' := [(0, .ref mb), (1, .int (nI m)), (2, .int (nI q))]) rfl ?_
  refine r_iconst C (v := nI 3) dX12_contribute_0 (by decide) ?_
  refine r_iload_n C 1 dX12_contribute_1 rfl rfl ?_
  refine r_imulN C dX12_contribute_2 ?_
  refine r_iload_n C 2 dX12_contribute_3 rfl rfl ?_
  refine r_iaddN C dX12_contribute_4 ?_
  refine r_istore_n C (lo' := [(3, .int (nI (3 * m + q))), (0, .ref mb), (1, .int (nI m)), (2, .int (nI q))]) dX12_contribute_5 rfl (by decide) rfl ?_
  refine r_aload_n C 1 dX12_contribute_6 rfl rfl ?_
  refine r_iconst C (v := nI 0) dX12_contribute_7 (by decide) ?_
  refine r_bipush C (v := nI 24) dX12_contribute_8 (by decide) ?_
  refine r_iload_n C 3 dX12_contribute_10 rfl rfl ?_
  refine r_imulN C dX12_contribute_11 ?_
  refine r_iload_n C 2 dX12_contribute_12 rfl rfl ?_
  refine r_callV C hgX (ci := 14) ml_X12_351 im_X12_lastOf se_X12_lastOf rfl rfl hm.k (c_X12_lastOf l hfl G M mb τ hm ht hw 0 (24 * q) m (by omega) (by omega) (by rw [if_pos rfl]; omega)) rfl (Nat.le_of_ble_eq_true rfl) ⟨Nat.le_of_ble_eq_true rfl, Nat.le_of_ble_eq_true rfl⟩ ⟨Nat.le_of_ble_eq_true rfl, Nat.le_of_ble_eq_true rfl⟩ dX12_contribute_13 rfl ?_
  rintro _ _ ⟨rfl, rfl⟩
  refine V.eSt (st' := [.int (oI (lastO τ 0 (24 * q) m))]) rfl ?_
  refine r_istore C (lo' := [(4, .int (oI (lastO τ 0 (24 * q) m))), (3, .int (nI (3 * m + q))), (0, .ref mb), (1, .int (nI m)), (2, .int (nI q))]) dX12_contribute_16 (by decide) rfl ?_
  have jn40 : V pp l ee ({ frames := 2, cells := 0, slots := 0, locals := 50 } : Room) ss mm ar bw mt cd G (MQ bw (Ke G (fun v M' => v = none ∧ fOut [56, 57] mb M M' ∧ mL M' (ma mb 56) (3 * m + q) = ctM τ q m (ysL M mb 55 m q + mL M (ma mb 55) (3 * m + q)) (ysL M mb 56 m q) ∧ mL M' (ma mb 57) (3 * m + q) = rndL (ctM τ q m (ysL M mb 55 m q + mL M (ma mb 55) (3 * m + q)) (ysL M mb 56 m q) * lN (crN τ q m)) (lN 1000) ∧ (∀ i, i ≠ 3 * m + q → mL M' (ma mb 56) i = mL M (ma mb 56) i) ∧ (∀ i, i ≠ 3 * m + q → mL M' (ma mb 57) i = mL M (ma mb 57) i))) ar ss 0 0 (gA G)) 11 M 0 0 40 [(4, .int (oI (lastO τ 0 (24 * q) m))), (3, .int (nI (3 * m + q))), (0, .ref mb), (1, .int (nI m)), (2, .int (nI q))] [.long (lN (ceilN τ q m))] := by
    skip
    refine r_lstore C (lo' := [(5, .long (lN (ceilN τ q m))), (4, .int (oI (lastO τ 0 (24 * q) m))), (3, .int (nI (3 * m + q))), (0, .ref mb), (1, .int (nI m)), (2, .int (nI q))]) dX12_contribute_40 (by decide) rfl ?_
    refine r_aload_n C 3 dX12_contribute_42 rfl rfl ?_
    refine r_iconst C (v := nI 0) dX12_contribute_43 (by decide) ?_
    refine r_iload_n C 4 dX12_contribute_44 rfl rfl ?_
    refine r_iload_n C 5 dX12_contribute_45 rfl rfl ?_
    refine r_callV C hgX (ci := 14) ml_X12_367 im_X12_yearSum se_X12_yearSum rfl rfl hm.k (c_X12_yearSum l hfl G M mb hm 0 m q (by omega) (by omega) (by omega)) rfl (Nat.le_of_ble_eq_true rfl) ⟨Nat.le_of_ble_eq_true rfl, Nat.le_of_ble_eq_true rfl⟩ ⟨Nat.le_of_ble_eq_true rfl, Nat.le_of_ble_eq_true rfl⟩ dX12_contribute_46 rfl ?_
    rintro _ _ ⟨rfl, rfl⟩
    refine V.eSt (st' := [.long (ysL M mb 55 m q)]) rfl ?_
    refine r_aload_n C 3 dX12_contribute_49 rfl rfl ?_
    refine r_getR C (b := (ma mb 55)) fl_X12_143 rfl hm.k (hm.r 55 rfl) dX12_contribute_50 ?_
    refine r_iload_n C 2 dX12_contribute_53 rfl rfl ?_
    refine r_laloadN C (hm.i 55 21 rfl) (hm.n 55 72 rfl) (by omega) (by omega) dX12_contribute_54 ?_
    refine r_ladd C dX12_contribute_55 ?_
    refine r_lstore C (lo' := [(7, .long ((ysL M mb 55 m q) + (mL M (ma mb 55) (3 * m + q)))), (5, .long (lN (ceilN τ q m))), (4, .int (oI (lastO τ 0 (24 * q) m))), (3, .int (nI (3 * m + q))), (0, .ref mb), (1, .int (nI m)), (2, .int (nI q))]) dX12_contribute_56 (by decide) rfl ?_
    have jn73 : V pp l ee ({ frames := 2, cells := 0, slots := 0, locals := 50 } : Room) ss mm ar bw mt cd G (MQ bw (Ke G (fun v M' => v = none ∧ fOut [56, 57] mb M M' ∧ mL M' (ma mb 56) (3 * m + q) = ctM τ q m (ysL M mb 55 m q + mL M (ma mb 55) (3 * m + q)) (ysL M mb 56 m q) ∧ mL M' (ma mb 57) (3 * m + q) = rndL (ctM τ q m (ysL M mb 55 m q + mL M (ma mb 55) (3 * m + q)) (ysL M mb 56 m q) * lN (crN τ q m)) (lN 1000) ∧ (∀ i, i ≠ 3 * m + q → mL M' (ma mb 56) i = mL M (ma mb 56) i) ∧ (∀ i, i ≠ 3 * m + q → mL M' (ma mb 57) i = mL M (ma mb 57) i))) ar ss 0 0 (gA G)) 11 M 0 0 73 [(7, .long ((ysL M mb 55 m q) + (mL M (ma mb 55) (3 * m + q)))), (5, .long (lN (ceilN τ q m))), (4, .int (oI (lastO τ 0 (24 * q) m))), (3, .int (nI (3 * m + q))), (0, .ref mb), (1, .int (nI m)), (2, .int (nI q))] [.long (mnL (ysL M mb 55 m q + mL M (ma mb 55) (3 * m + q)) (lN (ceilN τ q m)))] := by
      skip
      refine r_aload_n C 4 dX12_contribute_73 rfl rfl ?_
      refine r_iconst C (v := nI 1) dX12_contribute_74 (by decide) ?_
      refine r_iload_n C 5 dX12_contribute_75 rfl rfl ?_
      refine r_iload_n C 6 dX12_contribute_76 rfl rfl ?_
      refine r_callV C hgX (ci := 14) ml_X12_367 im_X12_yearSum se_X12_yearSum rfl rfl hm.k (c_X12_yearSum l hfl G M mb hm 1 m q (by omega) (by omega) (by omega)) rfl (Nat.le_of_ble_eq_true rfl) ⟨Nat.le_of_ble_eq_true rfl, Nat.le_of_ble_eq_true rfl⟩ ⟨Nat.le_of_ble_eq_true rfl, Nat.le_of_ble_eq_true rfl⟩ dX12_contribute_77 rfl ?_
      rintro _ _ ⟨rfl, rfl⟩
      refine V.eSt (st' := [.long (ysL M mb 56 m q), .long (mnL (ysL M mb 55 m q + mL M (ma mb 55) (3 * m + q)) (lN (ceilN τ q m)))]) rfl ?_
      refine r_lsub C dX12_contribute_80 ?_
      refine r_lstore C (lo' := [(9, .long ((mnL (ysL M mb 55 m q + mL M (ma mb 55) (3 * m + q)) (lN (ceilN τ q m))) - (ysL M mb 56 m q))), (7, .long ((ysL M mb 55 m q) + (mL M (ma mb 55) (3 * m + q)))), (5, .long (lN (ceilN τ q m))), (4, .int (oI (lastO τ 0 (24 * q) m))), (3, .int (nI (3 * m + q))), (0, .ref mb), (1, .int (nI m)), (2, .int (nI q))]) dX12_contribute_81 (by decide) rfl ?_
      refine r_aload_n C 5 dX12_contribute_83 rfl rfl ?_
      refine r_getR C (b := (ma mb 56)) fl_X12_146 rfl hm.k (hm.r 56 rfl) dX12_contribute_84 ?_
      refine r_iload_n C 4 dX12_contribute_87 rfl rfl ?_
      have jn101 : V pp l ee ({ frames := 2, cells := 0, slots := 0, locals := 50 } : Room) ss mm ar bw mt cd G (MQ bw (Ke G (fun v M' => v = none ∧ fOut [56, 57] mb M M' ∧ mL M' (ma mb 56) (3 * m + q) = ctM τ q m (ysL M mb 55 m q + mL M (ma mb 55) (3 * m + q)) (ysL M mb 56 m q) ∧ mL M' (ma mb 57) (3 * m + q) = rndL (ctM τ q m (ysL M mb 55 m q + mL M (ma mb 55) (3 * m + q)) (ysL M mb 56 m q) * lN (crN τ q m)) (lN 1000) ∧ (∀ i, i ≠ 3 * m + q → mL M' (ma mb 56) i = mL M (ma mb 56) i) ∧ (∀ i, i ≠ 3 * m + q → mL M' (ma mb 57) i = mL M (ma mb 57) i))) ar ss 0 0 (gA G)) 11 M 0 0 101 [(9, .long ((mnL (ysL M mb 55 m q + mL M (ma mb 55) (3 * m + q)) (lN (ceilN τ q m))) - (ysL M mb 56 m q))), (7, .long ((ysL M mb 55 m q) + (mL M (ma mb 55) (3 * m + q)))), (5, .long (lN (ceilN τ q m))), (4, .int (oI (lastO τ 0 (24 * q) m))), (3, .int (nI (3 * m + q))), (0, .ref mb), (1, .int (nI m)), (2, .int (nI q))] [.long (ctM τ q m (ysL M mb 55 m q + mL M (ma mb 55) (3 * m + q)) (ysL M mb 56 m q)), .int (nI (3 * m + q)), .ref (ma mb 56)] := by
        skip
        refine r_lastoreN C (hm.i 56 21 rfl) (hm.n 56 72 rfl) (by omega) (by omega) dX12_contribute_101 ?_
        have ht := ht.wl 56 (3 * m + q) (ctM τ q m (ysL M mb 55 m q + mL M (ma mb 55) (3 * m + q)) (ysL M mb 56 m q)) rfl
        refine r_aload_n C 5 dX12_contribute_102 rfl rfl ?_
        refine r_getR C (b := (ma mb 57)) fl_X12_149 rfl hm.k (hm.r 57 rfl) dX12_contribute_103 ?_
        refine r_iload_n C 4 dX12_contribute_106 rfl rfl ?_
        refine r_aload_n C 5 dX12_contribute_107 rfl rfl ?_
        refine r_aload_n C 5 dX12_contribute_108 rfl rfl ?_
        refine r_getR C (b := (ma mb 56)) fl_X12_146 rfl hm.k (hm.r 56 rfl) dX12_contribute_109 ?_
        refine r_iload_n C 4 dX12_contribute_112 rfl rfl ?_
        refine r_laloadN C (hm.i 56 21 rfl) (hm.n 56 72 rfl) (by omega) (by omega) dX12_contribute_113 ?_
        refine V.el (y := ctM τ q m (ysL M mb 55 m q + mL M (ma mb 55) (3 * m + q)) (ysL M mb 56 m q)) (up2_same _ _ _ _) ?_
        have jn135 : V pp l ee ({ frames := 2, cells := 0, slots := 0, locals := 50 } : Room) ss mm ar bw mt cd G (MQ bw (Ke G (fun v M' => v = none ∧ fOut [56, 57] mb M M' ∧ mL M' (ma mb 56) (3 * m + q) = ctM τ q m (ysL M mb 55 m q + mL M (ma mb 55) (3 * m + q)) (ysL M mb 56 m q) ∧ mL M' (ma mb 57) (3 * m + q) = rndL (ctM τ q m (ysL M mb 55 m q + mL M (ma mb 55) (3 * m + q)) (ysL M mb 56 m q) * lN (crN τ q m)) (lN 1000) ∧ (∀ i, i ≠ 3 * m + q → mL M' (ma mb 56) i = mL M (ma mb 56) i) ∧ (∀ i, i ≠ 3 * m + q → mL M' (ma mb 57) i = mL M (ma mb 57) i))) ar ss 0 0 (gA G)) 11 (wL M (ma mb 56) (3 * m + q) (ctM τ q m (ysL M mb 55 m q + mL M (ma mb 55) (3 * m + q)) (ysL M mb 56 m q))) 0 0 135 [(9, .long ((mnL (ysL M mb 55 m q + mL M (ma mb 55) (3 * m + q)) (lN (ceilN τ q m))) - (ysL M mb 56 m q))), (7, .long ((ysL M mb 55 m q) + (mL M (ma mb 55) (3 * m + q)))), (5, .long (lN (ceilN τ q m))), (4, .int (oI (lastO τ 0 (24 * q) m))), (3, .int (nI (3 * m + q))), (0, .ref mb), (1, .int (nI m)), (2, .int (nI q))] [.int (nI (crN τ q m)), .long (ctM τ q m (ysL M mb 55 m q + mL M (ma mb 55) (3 * m + q)) (ysL M mb 56 m q)), .ref mb, .int (nI (3 * m + q)), .ref (ma mb 57)] := by
          skip
          have hcr := crN_le (m := m) hw hq hmn
          refine r_i2lN C (by omega) dX12_contribute_135 ?_
          refine r_lmul C dX12_contribute_136 ?_
          refine r_ldc2 C (v := 1000) kl_X12_331 dX12_contribute_137 ?_
          refine V.el (y := lN 1000) (by decide) ?_
          refine r_callV C hgX (ci := 14) ml_X12_261 im_X12_round se_X12_round rfl rfl (show mK (wL M (ma mb 56) (3 * m + q) (ctM τ q m (ysL M mb 55 m q + mL M (ma mb 55) (3 * m + q)) (ysL M mb 56 m q))) mb = 14 + 1 from hm.k) (c_X12_round l hfl G (wL M (ma mb 56) (3 * m + q) (ctM τ q m (ysL M mb 55 m q + mL M (ma mb 55) (3 * m + q)) (ysL M mb 56 m q))) mb hm ((ctM τ q m (ysL M mb 55 m q + mL M (ma mb 55) (3 * m + q)) (ysL M mb 56 m q)) * (lN (crN τ q m))) (lN 1000) (by rw [show (2 : Int64) = lN 2 from rfl, lN_mul]; exact lN_ne0 (by omega) (by omega))) rfl (Nat.le_of_ble_eq_true rfl) ⟨Nat.le_of_ble_eq_true rfl, Nat.le_of_ble_eq_true rfl⟩ ⟨Nat.le_of_ble_eq_true rfl, Nat.le_of_ble_eq_true rfl⟩ dX12_contribute_140 rfl ?_
          rintro _ _ ⟨rfl, rfl⟩
          refine V.eSt (st' := [.long (rndL ((ctM τ q m (ysL M mb 55 m q + mL M (ma mb 55) (3 * m + q)) (ysL M mb 56 m q)) * (lN (crN τ q m))) (lN 1000)), .int (nI (3 * m + q)), .ref (ma mb 57)]) rfl ?_
          refine r_lastoreN C (hm.i 57 21 rfl) (hm.n 57 72 rfl) (by omega) (by omega) dX12_contribute_143 ?_
          exact r_vret C hr (⟨rfl, ((fOut.rf _ _ _).setL 56 _ _ rfl).setL 57 _ _ rfl, (congrFun (up2_row _ _ (ma_ne rfl)) _).trans (up2_same _ _ _ _), up2_same _ _ _ _, fun i hi => (congrFun (up2_row _ _ (ma_ne rfl)) _).trans (up2_k _ _ hi), fun i hi => (up2_k _ _ hi).trans (congrFun (up2_row _ _ (ma_ne rfl)) _)⟩) (by first | exact Nat.zero_le _ | decide) (by first | exact Nat.zero_le _ | decide) dX12_contribute_144
        refine r_iload C 3 dX12_contribute_114 rfl ?_
        refine r_if_ge C (t := 123) dX12_contribute_116 (by decide) (fun c116 => ?_) (fun c116 => ?_)
        · skip
          obtain ⟨k, hlo⟩ := oI_some c116
          have hk1 := (lastO_le hlo).1
          have hk2 := (lastO_le hlo).2
          refine r_aload_n C 5 dX12_contribute_123 rfl rfl ?_
          refine r_getR C (b := (ma mb 31)) fl_X12_80 rfl hm.k (hm.r 31 rfl) dX12_contribute_124 ?_
          refine r_bipush C (v := nI 24) dX12_contribute_127 (by decide) ?_
          refine r_iload_n C 7 dX12_contribute_129 rfl rfl ?_
          refine r_imulN C dX12_contribute_130 ?_
          refine r_iload C 3 dX12_contribute_131 rfl ?_
          refine V.ei (y := nI k) (by rw [hlo]; rfl) ?_
          refine r_iaddN C dX12_contribute_133 ?_
          refine r_ialoadN C (hm.i 31 20 rfl) (hm.n 31 72 rfl) (by omega) (by omega) dX12_contribute_134 ?_
          refine V.ei (y := nI (un τ 31 (24 * q + k))) ((ht.i 31 rfl _).trans (hasB0 hw (by omega) hk2).1) ?_
          have hb1 := (hasB0 hw (by omega) hk2).2
          refine V.ei (y := nI (crN τ q m)) (congrArg nI (by unfold crN; rw [hlo])) ?_
          exact jn135
        · skip
          refine r_iconst C (v := nI 0) dX12_contribute_119 (by decide) ?_
          refine r_goto C (t := 135) dX12_contribute_120 (by decide) ?_
          refine V.ei (y := nI (crN τ q m)) (congrArg nI (by unfold crN; rw [oI_none (lastO_b hmn) c116])) ?_
          exact jn135
      refine r_lload C 0 dX12_contribute_88 rfl ?_
      refine r_lconst C (v := lN 0) dX12_contribute_90 (by decide) ?_
      refine r_lcmp_le C (t := 100) dX12_contribute_91 dX12_contribute_92 (by decide) (fun c92 => ?_) (fun c92 => ?_)
      · skip
        refine r_lconst C (v := lN 0) dX12_contribute_100 (by decide) ?_
        refine V.el (y := ctM τ q m (ysL M mb 55 m q + mL M (ma mb 55) (3 * m + q)) (ysL M mb 56 m q)) (by unfold ctM pzL; rw [if_neg (Int64.not_lt.mpr c92)]) ?_
        exact jn101
      · skip
        refine r_lload C 0 dX12_contribute_95 rfl ?_
        refine r_goto C (t := 101) dX12_contribute_97 (by decide) ?_
        refine V.el (y := ctM τ q m (ysL M mb 55 m q + mL M (ma mb 55) (3 * m + q)) (ysL M mb 56 m q)) (by unfold ctM pzL; rw [if_pos (Int64.not_le.mp c92)]) ?_
        exact jn101
    refine r_lload C 0 dX12_contribute_58 rfl ?_
    refine r_lload C 1 dX12_contribute_60 rfl ?_
    refine r_lcmp_ge C (t := 71) dX12_contribute_62 dX12_contribute_63 (by decide) (fun c63 => ?_) (fun c63 => ?_)
    · skip
      refine r_lload C 1 dX12_contribute_71 rfl ?_
      refine V.el (y := mnL (ysL M mb 55 m q + mL M (ma mb 55) (3 * m + q)) (lN (ceilN τ q m))) (by unfold mnL; rw [if_neg (Int64.not_lt.mpr c63)]) ?_
      exact jn73
    · skip
      refine r_lload C 0 dX12_contribute_66 rfl ?_
      refine r_goto C (t := 73) dX12_contribute_68 (by decide) ?_
      refine V.el (y := mnL (ysL M mb 55 m q + mL M (ma mb 55) (3 * m + q)) (lN (ceilN τ q m))) (by unfold mnL; rw [if_pos (Int64.not_le.mp c63)]) ?_
      exact jn73
  refine r_iload C 0 dX12_contribute_18 rfl ?_
  refine r_if_ge C (t := 27) dX12_contribute_20 (by decide) (fun c20 => ?_) (fun c20 => ?_)
  · skip
    obtain ⟨k, hlo⟩ := oI_some c20
    have hk1 := (lastO_le hlo).1
    have hk2 := (lastO_le hlo).2
    refine r_aload_n C 2 dX12_contribute_27 rfl rfl ?_
    refine r_getR C (b := (ma mb 32)) fl_X12_83 rfl hm.k (hm.r 32 rfl) dX12_contribute_28 ?_
    refine r_bipush C (v := nI 24) dX12_contribute_31 (by decide) ?_
    refine r_iload_n C 4 dX12_contribute_33 rfl rfl ?_
    refine r_imulN C dX12_contribute_34 ?_
    refine r_iload C 0 dX12_contribute_35 rfl ?_
    refine V.ei (y := nI k) (by rw [hlo]; rfl) ?_
    refine r_iaddN C dX12_contribute_37 ?_
    refine r_ialoadN C (hm.i 32 20 rfl) (hm.n 32 72 rfl) (by omega) (by omega) dX12_contribute_38 ?_
    refine V.ei (y := nI (un τ 32 (24 * q + k))) ((ht.i 32 rfl _).trans (hw.cc (24 * q + k) (by omega)).1) ?_
    have hb2 := (hw.cc (24 * q + k) (by omega)).2
    refine r_i2lN C (by omega) dX12_contribute_39 ?_
    refine V.el (y := lN (ceilN τ q m)) (congrArg lN (by unfold ceilN; rw [hlo])) ?_
    exact jn40
  · skip
    refine r_lconst C (v := lN 0) dX12_contribute_23 (by decide) ?_
    refine r_goto C (t := 40) dX12_contribute_24 (by decide) ?_
    refine V.el (y := lN (ceilN τ q m)) (congrArg lN (by unfold ceilN; rw [oI_none (lastO_b hmn) c20])) ?_
    exact jn40
