/-! THE REFERENCE: the public methods, further -/
def inL (τ : Mu) (p m q w : Nat) : Int64 := if w = 0 then grL τ p m q else if w = 1 then coL τ p m q else taL τ p m q
def sumS (τ : Mu) (p m w : Nat) : Int64 := sumL (fun q => inL τ p m q w) 3
def slL (τ : Mu) (p m w : Nat) : Int64 := if w = 2 then pnL τ p m else if w = 4 then ntL τ p m else if w = 5 then ntL τ p m - lvL τ p m else if w = 6 then pyL τ p m else if w = 7 then mtL τ p m else sumS τ p m w
def inI (τ : Mu) (p m q : Nat) (w : Int32) : Int64 := if w = 0 then grL τ p m q else if w = nI 1 then coL τ p m q else taL τ p m q
def vsN (τ : Mu) (p n : Nat) : Nat := sumN (fun k => if lN 0 < pnL τ p k then 1 else 0) 0 n
def pfL (τ : Mu) (p m : Nat) : Int64 := sumL (pnL τ p) (m + 1) + (if 6 ≤ vsN τ p (m + 1) then sumL (mtL τ p) (m + 1) else lN 0)
theorem vsN_le (τ : Mu) (p n : Nat) : vsN τ p n ≤ n := by
  have h := sumN_le (f := fun k => if lN 0 < pnL τ p k then 1 else 0) (a := 0) (b := 1) (n := n) (fun i hi => by show (if _ then 1 else 0) ≤ 1; split <;> omega)
  unfold vsN; omega
/-- what payments leave of a sum -/
def pdL (τ : Mu) (p : Nat) (s0 : Int64) : Nat → Int64
  | 0 => s0
  | k + 1 => pdL τ p s0 k - (if un τ 47 k = p ∧ un τ 50 k = 0 then τ.2 49 k else lN 0)
def pmL (τ : Mu) (k w : Nat) : Int64 := if w = 0 then lN (un τ 47 k) else if w = 1 then lN (un τ 48 k) else if w = 2 then τ.2 49 k else lN (un τ 50 k)
def brB (τ : Mu) (a : Nat) (t : Int32) : Bool := decide (un τ 33 a ≠ 4) && (decide (un τ 33 a = 0) || decide (τ.1 34 (4 * a + un τ 33 a - 1) < t))
/-- what the second half holds of payments -/
def WFb (τ : Mu) : Prop := okN τ 46 46 24 ∧ okN τ 51 51 144 ∧ (∀ k, k < un τ 51 51 → okN τ 47 k 5) ∧ (∀ k, k < un τ 51 51 → okN τ 48 k 23) ∧ ∀ k, k < un τ 51 51 → okN τ 50 k 1
theorem WF.b {τ : Mu} (h : WF τ) : WFb τ := ⟨h.op, h.np, h.pw, h.pm, h.pb⟩

set_option maxHeartbeats 4000000 in
set_option maxRecDepth 100000 in
theorem c_X12_sumOf (l : Launch) (hfl : l.flags = flags0) (G : gW) (M : Mem) (mb : Nat) (hm : MOK (mK M) (mN M) (mR M) mb) (τ : Mu) (p w m : Nat) (hw8 : w < 8) (hmn : m < 24) (hb : BKm τ p M mb m) : CT l yX12_sumOf cX12_sumOf 6 (some .long) 0 0 0 0 G M [.ref mb, .int (nI w), .int (nI m)] (fun v M' => v = some (.long (sumS τ p m w)) ∧ M = M') := by
  refine CT.of hfl rfl (Nat.le_of_ble_eq_true rfl) ?_
  intro pp ee ss mm ar bw mt cd C hgX hr hini
  refine V.eLo (lo' := [(0, .ref mb), (1, .int (nI w)), (2, .int (nI m))]) rfl ?_
  refine r_lconst C (v := lN 0) dX12_sumOf_0 (by decide) ?_
  refine r_lstore_n C (lo' := [(3, .long (lN 0)), (0, .ref mb), (1, .int (nI w)), (2, .int (nI m))]) dX12_sumOf_1 rfl (by decide) rfl ?_
  refine r_iconst C (v := nI 0) dX12_sumOf_2 (by decide) ?_
  refine r_istore C (lo' := [(5, .int (nI 0)), (3, .long (lN 0)), (0, .ref mb), (1, .int (nI w)), (2, .int (nI m))]) dX12_sumOf_3 (by decide) rfl ?_
  have lp5 : ∀ (k5 : Nat) (q : Nat) (hq : q ≤ 3), 4 - q < k5 → V pp l ee ({ frames := 0, cells := 0, slots := 0, locals := 0 } : Room) ss mm ar bw mt cd G (MQ bw (Ke G (fun v M' => v = some (.long (sumS τ p m w)) ∧ M = M')) ar ss 0 0 (gA G)) 6 M 0 0 5 [(0, .ref mb), (1, .int (nI w)), (2, .int (nI m)), (3, .long (sumL (fun q => inL τ p m q w) q)), (5, .int (nI q))] [] := by
    intro k5
    induction k5 with
    | zero => intro q hq hz5; exact absurd hz5 (Nat.not_lt_zero _)
    | succ k5 ih5 =>
      intro q hq hz5
      refine r_iload C 4 dX12_sumOf_5 rfl ?_
      refine r_iconst C (v := nI 3) dX12_sumOf_7 (by decide) ?_
      refine r_icmp_geN C (t := 68) (by omega) (by omega) dX12_sumOf_8 (by decide) (fun c8 => ?_) (fun c8 => ?_)
      · skip
        have eq3 : q = 3 := by omega
        subst eq3
        refine r_lload_n C 3 dX12_sumOf_68 rfl rfl ?_
        exact r_lret C hr (⟨rfl, rfl⟩) (by first | exact Nat.zero_le _ | decide) (by first | exact Nat.zero_le _ | decide) dX12_sumOf_69
      · skip
        obtain ⟨b1, b2, b3, b4, b5⟩ := hb.1 q (by omega)
        refine r_lload_n C 3 dX12_sumOf_11 rfl rfl ?_
        have jn60 : V pp l ee ({ frames := 0, cells := 0, slots := 0, locals := 0 } : Room) ss mm ar bw mt cd G (MQ bw (Ke G (fun v M' => v = some (.long (sumS τ p m w)) ∧ M = M')) ar ss 0 0 (gA G)) 6 M 0 0 60 [(0, .ref mb), (1, .int (nI w)), (2, .int (nI m)), (3, .long (sumL (fun q => inL τ p m q w) q)), (5, .int (nI q))] [.long (inL τ p m q w), .long (sumL (fun q => inL τ p m q w) q)] := by
          skip
          refine r_ladd C dX12_sumOf_60 ?_
          refine r_lstore_n C (lo' := [(3, .long ((sumL (fun q => inL τ p m q w) q) + (inL τ p m q w))), (0, .ref mb), (1, .int (nI w)), (2, .int (nI m)), (5, .int (nI q))]) dX12_sumOf_61 rfl (by decide) rfl ?_
          refine r_iinc C (v := nI (q + 1)) (lo' := [(5, .int (nI (q + 1))), (3, .long ((sumL (fun q => inL τ p m q w) q) + (inL τ p m q w))), (0, .ref mb), (1, .int (nI w)), (2, .int (nI m))]) 4 dX12_sumOf_62 rfl (nI_addI q 1) (by decide) rfl ?_
          refine r_goto C (t := 5) dX12_sumOf_65 (by decide) ?_
          have jb3 : ((sumL (fun q => inL τ p m q w) q) + (inL τ p m q w)) = (sumL (fun q => inL τ p m q w) (q + 1)) := by rfl
          refine V.eLo (lo' := [(5, .int (nI (q + 1))), (3, .long (sumL (fun q => inL τ p m q w) (q + 1))), (0, .ref mb), (1, .int (nI w)), (2, .int (nI m))]) (congrArg (fun z_ => ([(5, .int (nI (q + 1))), (3, .long z_), (0, .ref mb), (1, .int (nI w)), (2, .int (nI m))] : List (Nat × Value))) jb3) ?_
          refine V.sub [2, 3, 4, 1, 0] (lo' := [(0, .ref mb), (1, .int (nI w)), (2, .int (nI m)), (3, .long (sumL (fun q => inL τ p m q w) (q + 1))), (5, .int (nI (q + 1)))]) rfl ?_
          exact ih5 (q + 1) (by omega) (by omega)
        refine r_iload_n C 1 dX12_sumOf_12 rfl rfl ?_
        refine r_if_neN C (t := 30) (by omega) dX12_sumOf_13 (by decide) (fun c13 => ?_) (fun c13 => ?_)
        · skip
          refine r_iload_n C 1 dX12_sumOf_30 rfl rfl ?_
          refine r_iconst C (v := nI 1) dX12_sumOf_31 (by decide) ?_
          refine r_icmp_neN C (t := 49) (by omega) (by omega) dX12_sumOf_32 (by decide) (fun c32 => ?_) (fun c32 => ?_)
          · skip
            refine r_aload_n C 0 dX12_sumOf_49 rfl rfl ?_
            refine r_getR C (b := (ma mb 59)) fl_X12_155 rfl hm.k (hm.r 59 rfl) dX12_sumOf_50 ?_
            refine r_iconst C (v := nI 3) dX12_sumOf_53 (by decide) ?_
            refine r_iload_n C 2 dX12_sumOf_54 rfl rfl ?_
            refine r_imulN C dX12_sumOf_55 ?_
            refine r_iload C 4 dX12_sumOf_56 rfl ?_
            refine r_iaddN C dX12_sumOf_58 ?_
            refine r_laloadN C (hm.i 59 21 rfl) (hm.n 59 72 rfl) (by omega) (by omega) dX12_sumOf_59 ?_
            refine V.el (y := taL τ p m q) (b5) ?_
            refine V.el (y := inL τ p m q w) (by unfold inL; rw [if_neg c13, if_neg c32]) ?_
            exact jn60
          · skip
            refine r_aload_n C 0 dX12_sumOf_35 rfl rfl ?_
            refine r_getR C (b := (ma mb 57)) fl_X12_149 rfl hm.k (hm.r 57 rfl) dX12_sumOf_36 ?_
            refine r_iconst C (v := nI 3) dX12_sumOf_39 (by decide) ?_
            refine r_iload_n C 2 dX12_sumOf_40 rfl rfl ?_
            refine r_imulN C dX12_sumOf_41 ?_
            refine r_iload C 4 dX12_sumOf_42 rfl ?_
            refine r_iaddN C dX12_sumOf_44 ?_
            refine r_laloadN C (hm.i 57 21 rfl) (hm.n 57 72 rfl) (by omega) (by omega) dX12_sumOf_45 ?_
            refine V.el (y := coL τ p m q) (b3) ?_
            refine r_goto C (t := 60) dX12_sumOf_46 (by decide) ?_
            refine V.el (y := inL τ p m q w) (by unfold inL; rw [if_neg c13, if_pos c32]) ?_
            exact jn60
        · skip
          refine r_aload_n C 0 dX12_sumOf_16 rfl rfl ?_
          refine r_getR C (b := (ma mb 55)) fl_X12_143 rfl hm.k (hm.r 55 rfl) dX12_sumOf_17 ?_
          refine r_iconst C (v := nI 3) dX12_sumOf_20 (by decide) ?_
          refine r_iload_n C 2 dX12_sumOf_21 rfl rfl ?_
          refine r_imulN C dX12_sumOf_22 ?_
          refine r_iload C 4 dX12_sumOf_23 rfl ?_
          refine r_iaddN C dX12_sumOf_25 ?_
          refine r_laloadN C (hm.i 55 21 rfl) (hm.n 55 72 rfl) (by omega) (by omega) dX12_sumOf_26 ?_
          refine V.el (y := grL τ p m q) (b1) ?_
          refine r_goto C (t := 60) dX12_sumOf_27 (by decide) ?_
          refine V.el (y := inL τ p m q w) (by unfold inL; rw [if_pos c13]) ?_
          exact jn60
  refine V.sub [2, 3, 4, 1, 0] (lo' := [(0, .ref mb), (1, .int (nI w)), (2, .int (nI m)), (3, .long (lN 0)), (5, .int (nI 0))]) rfl ?_
  exact lp5 _ 0 (Nat.zero_le _) (Nat.lt_succ_self _)
set_option maxHeartbeats 4000000 in
set_option maxRecDepth 100000 in
theorem c_X12_owes (l : Launch) (hfl : l.flags = flags0) (G : gW) (M : Mem) (mb : Nat) (τ : Mu) (hm : MOK (mK M) (mN M) (mR M) mb) (ht : TE (mI M) (mL M) mb τ) (hw : WF τ) (τb : Mu) (htb : TEb (mI M) (mL M) mb τb) (hwb : WFb τb) (p n : Nat) (hp : p < 6) (hn : n < 24) (hlb : LTB M mb) : CT l yX12_owes cX12_owes 6 (some .long) 6 0 0 164 G M [.ref mb, .int (nI p), .int (nI n)] (fun v M' => v = some (.long (pdL τb p (sumL (pyL τ p) (n + 1)) (un τb 51 51))) ∧ fOut [16, 21, 28, 29, 55, 56, 57, 58, 59, 60, 61, 62, 63, 64, 65, 66] mb M M' ∧ (∀ k, k < 24 → BKm τ p M' mb k) ∧ LTB M' mb) := by
  refine CT.of hfl rfl (Nat.le_of_ble_eq_true rfl) ?_
  intro pp ee ss mm ar bw mt cd C hgX hr hini
  have hnc := hw.nc.2
  have h51 := hwb.2.1.2
  refine V.eLo (lo' := [(0, .ref mb), (1, .int (nI p)), (2, .int (nI n))]) rfl ?_
  refine r_aload_n C 0 dX12_owes_0 rfl rfl ?_
  refine r_iload_n C 1 dX12_owes_1 rfl rfl ?_
  refine r_callV C hgX (ci := 14) ml_X12_389 im_X12_slips se_X12_slips rfl rfl hm.k (c_X12_slips l hfl G M mb τ hm ht hw p (by omega) (hlb)) rfl (Nat.le_of_ble_eq_true rfl) ⟨Nat.le_of_ble_eq_true rfl, Nat.le_of_ble_eq_true rfl⟩ ⟨Nat.le_of_ble_eq_true rfl, Nat.le_of_ble_eq_true rfl⟩ dX12_owes_2 rfl ?_
  rintro _ My1 ⟨rfl, hfo1, hbk1, hlb1⟩
  have hm := hfo1.ok hm
  have ht := hfo1.te rfl ht
  have htb := hfo1.tb rfl htb
  have hfoX := hfo1
  have hlb := hlb1
  have hbk := hbk1
  have h51 := hwb.2.1.2
  refine r_lconst C (v := lN 0) dX12_owes_5 (by decide) ?_
  refine r_lstore_n C (lo' := [(3, .long (lN 0)), (0, .ref mb), (1, .int (nI p)), (2, .int (nI n))]) dX12_owes_6 rfl (by decide) rfl ?_
  refine r_iconst C (v := nI 0) dX12_owes_7 (by decide) ?_
  refine r_istore C (lo' := [(5, .int (nI 0)), (3, .long (lN 0)), (0, .ref mb), (1, .int (nI p)), (2, .int (nI n))]) dX12_owes_8 (by decide) rfl ?_
  have lp10 : ∀ (k10 : Nat) (k : Nat) (hk : k ≤ n + 1), n + 2 - k < k10 → V pp l ee ({ frames := 6, cells := 0, slots := 0, locals := 164 } : Room) ss mm ar bw mt cd G (MQ bw (Ke G (fun v M' => v = some (.long (pdL τb p (sumL (pyL τ p) (n + 1)) (un τb 51 51))) ∧ fOut [16, 21, 28, 29, 55, 56, 57, 58, 59, 60, 61, 62, 63, 64, 65, 66] mb M M' ∧ (∀ k, k < 24 → BKm τ p M' mb k) ∧ LTB M' mb)) ar ss 0 0 (gA G)) 6 My1 0 0 10 [(0, .ref mb), (1, .int (nI p)), (2, .int (nI n)), (3, .long (sumL (pyL τ p) k)), (5, .int (nI k))] [] := by
    intro k10
    induction k10 with
    | zero => intro k hk hz10; exact absurd hz10 (Nat.not_lt_zero _)
    | succ k10 ih10 =>
      intro k hk hz10
      refine r_iload C 4 dX12_owes_10 rfl ?_
      refine r_iload_n C 2 dX12_owes_12 rfl rfl ?_
      refine r_icmp_gtN C (t := 32) (by omega) (by omega) dX12_owes_13 (by decide) (fun c13 => ?_) (fun c13 => ?_)
      · skip
        have ek : k = n + 1 := by omega
        subst ek
        refine r_iconst C (v := nI 0) dX12_owes_32 (by decide) ?_
        refine r_istore C (lo' := [(5, .int (nI 0)), (0, .ref mb), (1, .int (nI p)), (2, .int (nI n)), (3, .long (sumL (pyL τ p) (n + 1)))]) dX12_owes_33 (by decide) rfl ?_
        have lp35 : ∀ (k35 : Nat) (j : Nat) (hj : j ≤ un τb 51 51), un τb 51 51 + 1 - j < k35 → V pp l ee ({ frames := 6, cells := 0, slots := 0, locals := 164 } : Room) ss mm ar bw mt cd G (MQ bw (Ke G (fun v M' => v = some (.long (pdL τb p (sumL (pyL τ p) (n + 1)) (un τb 51 51))) ∧ fOut [16, 21, 28, 29, 55, 56, 57, 58, 59, 60, 61, 62, 63, 64, 65, 66] mb M M' ∧ (∀ k, k < 24 → BKm τ p M' mb k) ∧ LTB M' mb)) ar ss 0 0 (gA G)) 6 My1 0 0 35 [(0, .ref mb), (1, .int (nI p)), (2, .int (nI n)), (3, .long (pdL τb p (sumL (pyL τ p) (n + 1)) j)), (5, .int (nI j))] [] := by
          intro k35
          induction k35 with
          | zero => intro j hj hz35; exact absurd hz35 (Nat.not_lt_zero _)
          | succ k35 ih35 =>
            intro j hj hz35
            refine r_iload C 4 dX12_owes_35 rfl ?_
            refine r_aload_n C 0 dX12_owes_37 rfl rfl ?_
            refine r_getI C fl_X12_398 rfl hm.k dX12_owes_38 ?_
            refine V.ei (y := nI (un τb 51 51)) ((htb.s 51 rfl).trans hwb.2.1.1) ?_
            refine r_icmp_geN C (t := 85) (by omega) (by omega) dX12_owes_41 (by decide) (fun c41 => ?_) (fun c41 => ?_)
            · skip
              have ej : j = un τb 51 51 := by omega
              subst ej
              refine r_lload_n C 3 dX12_owes_85 rfl rfl ?_
              exact r_lret C hr (⟨rfl, hfoX, hbk, hlb⟩) (by first | exact Nat.zero_le _ | decide) (by first | exact Nat.zero_le _ | decide) dX12_owes_86
            · skip
              refine r_lload_n C 3 dX12_owes_44 rfl rfl ?_
              have jn77 : V pp l ee ({ frames := 6, cells := 0, slots := 0, locals := 164 } : Room) ss mm ar bw mt cd G (MQ bw (Ke G (fun v M' => v = some (.long (pdL τb p (sumL (pyL τ p) (n + 1)) (un τb 51 51))) ∧ fOut [16, 21, 28, 29, 55, 56, 57, 58, 59, 60, 61, 62, 63, 64, 65, 66] mb M M' ∧ (∀ k, k < 24 → BKm τ p M' mb k) ∧ LTB M' mb)) ar ss 0 0 (gA G)) 6 My1 0 0 77 [(0, .ref mb), (1, .int (nI p)), (2, .int (nI n)), (3, .long (pdL τb p (sumL (pyL τ p) (n + 1)) j)), (5, .int (nI j))] [.long (if un τb 47 j = p ∧ un τb 50 j = 0 then τb.2 49 j else lN 0), .long (pdL τb p (sumL (pyL τ p) (n + 1)) j)] := by
                skip
                refine r_lsub C dX12_owes_77 ?_
                refine r_lstore_n C (lo' := [(3, .long ((pdL τb p (sumL (pyL τ p) (n + 1)) j) - (if un τb 47 j = p ∧ un τb 50 j = 0 then τb.2 49 j else lN 0))), (0, .ref mb), (1, .int (nI p)), (2, .int (nI n)), (5, .int (nI j))]) dX12_owes_78 rfl (by decide) rfl ?_
                refine r_iinc C (v := nI (j + 1)) (lo' := [(5, .int (nI (j + 1))), (3, .long ((pdL τb p (sumL (pyL τ p) (n + 1)) j) - (if un τb 47 j = p ∧ un τb 50 j = 0 then τb.2 49 j else lN 0))), (0, .ref mb), (1, .int (nI p)), (2, .int (nI n))]) 4 dX12_owes_79 rfl (nI_addI j 1) (by decide) rfl ?_
                refine r_goto C (t := 35) dX12_owes_82 (by decide) ?_
                have jb3 : ((pdL τb p (sumL (pyL τ p) (n + 1)) j) - (if un τb 47 j = p ∧ un τb 50 j = 0 then τb.2 49 j else lN 0)) = (pdL τb p (sumL (pyL τ p) (n + 1)) (j + 1)) := by rfl
                refine V.eLo (lo' := [(5, .int (nI (j + 1))), (3, .long (pdL τb p (sumL (pyL τ p) (n + 1)) (j + 1))), (0, .ref mb), (1, .int (nI p)), (2, .int (nI n))]) (congrArg (fun z_ => ([(5, .int (nI (j + 1))), (3, .long z_), (0, .ref mb), (1, .int (nI p)), (2, .int (nI n))] : List (Nat × Value))) jb3) ?_
                refine V.sub [2, 3, 4, 1, 0] (lo' := [(0, .ref mb), (1, .int (nI p)), (2, .int (nI n)), (3, .long (pdL τb p (sumL (pyL τ p) (n + 1)) (j + 1))), (5, .int (nI (j + 1)))]) rfl ?_
                exact ih35 (j + 1) (by omega) (by omega)
              refine r_aload_n C 0 dX12_owes_45 rfl rfl ?_
              refine r_getR C (b := (ma mb 47)) fl_X12_122 rfl hm.k (hm.r 47 rfl) dX12_owes_46 ?_
              refine r_iload C 4 dX12_owes_49 rfl ?_
              refine r_ialoadN C (hm.i 47 20 rfl) (hm.n 47 144 rfl) (by omega) (by omega) dX12_owes_51 ?_
              refine V.ei (y := nI (un τb 47 j)) ((htb.i 47 rfl _).trans (hwb.2.2.1 j (by omega)).1) ?_
              refine r_iload_n C 1 dX12_owes_52 rfl rfl ?_
              refine r_icmp_neN C (t := 76) (by have := (hwb.2.2.1 j (by omega)).2; omega) (by omega) dX12_owes_53 (by decide) (fun c53 => ?_) (fun c53 => ?_)
              · skip
                refine r_lconst C (v := lN 0) dX12_owes_76 (by decide) ?_
                refine V.el (y := if un τb 47 j = p ∧ un τb 50 j = 0 then τb.2 49 j else lN 0) (by rw [if_neg (fun q => c53 q.1)]) ?_
                exact jn77
              · skip
                refine r_aload_n C 0 dX12_owes_56 rfl rfl ?_
                refine r_getR C (b := (ma mb 50)) fl_X12_131 rfl hm.k (hm.r 50 rfl) dX12_owes_57 ?_
                refine r_iload C 4 dX12_owes_60 rfl ?_
                refine r_ialoadN C (hm.i 50 20 rfl) (hm.n 50 144 rfl) (by omega) (by omega) dX12_owes_62 ?_
                refine V.ei (y := nI (un τb 50 j)) ((htb.i 50 rfl _).trans (hwb.2.2.2.2 j (by omega)).1) ?_
                refine r_if_neN C (t := 76) (by have := (hwb.2.2.2.2 j (by omega)).2; omega) dX12_owes_63 (by decide) (fun c63 => ?_) (fun c63 => ?_)
                · skip
                  refine r_lconst C (v := lN 0) dX12_owes_76 (by decide) ?_
                  refine V.el (y := if un τb 47 j = p ∧ un τb 50 j = 0 then τb.2 49 j else lN 0) (by rw [if_neg (fun q => c63 q.2)]) ?_
                  exact jn77
                · skip
                  refine r_aload_n C 0 dX12_owes_66 rfl rfl ?_
                  refine r_getR C (b := (ma mb 49)) fl_X12_128 rfl hm.k (hm.r 49 rfl) dX12_owes_67 ?_
                  refine r_iload C 4 dX12_owes_70 rfl ?_
                  refine r_laloadN C (hm.i 49 21 rfl) (hm.n 49 144 rfl) (by omega) (by omega) dX12_owes_72 ?_
                  refine V.el (y := τb.2 49 j) (htb.l 49 rfl _) ?_
                  refine r_goto C (t := 77) dX12_owes_73 (by decide) ?_
                  refine V.el (y := if un τb 47 j = p ∧ un τb 50 j = 0 then τb.2 49 j else lN 0) (by rw [if_pos ⟨c53, c63⟩]) ?_
                  exact jn77
        refine V.sub [1, 2, 3, 4, 0] (lo' := [(0, .ref mb), (1, .int (nI p)), (2, .int (nI n)), (3, .long (sumL (pyL τ p) (n + 1))), (5, .int (nI 0))]) rfl ?_
        exact lp35 _ 0 (Nat.zero_le _) (Nat.lt_succ_self _)
      · skip
        refine r_lload_n C 3 dX12_owes_16 rfl rfl ?_
        refine r_aload_n C 0 dX12_owes_17 rfl rfl ?_
        refine r_getR C (b := (ma mb 64)) fl_X12_170 rfl hm.k (hm.r 64 rfl) dX12_owes_18 ?_
        refine r_iload C 4 dX12_owes_21 rfl ?_
        refine r_laloadN C (hm.i 64 21 rfl) (hm.n 64 24 rfl) (by omega) (by omega) dX12_owes_23 ?_
        refine V.el (y := pyL τ p k) ((hbk k (by omega)).2.1.2.2.2.2) ?_
        refine r_ladd C dX12_owes_24 ?_
        refine r_lstore_n C (lo' := [(3, .long ((sumL (pyL τ p) k) + (pyL τ p k))), (0, .ref mb), (1, .int (nI p)), (2, .int (nI n)), (5, .int (nI k))]) dX12_owes_25 rfl (by decide) rfl ?_
        refine r_iinc C (v := nI (k + 1)) (lo' := [(5, .int (nI (k + 1))), (3, .long ((sumL (pyL τ p) k) + (pyL τ p k))), (0, .ref mb), (1, .int (nI p)), (2, .int (nI n))]) 4 dX12_owes_26 rfl (nI_addI k 1) (by decide) rfl ?_
        refine r_goto C (t := 10) dX12_owes_29 (by decide) ?_
        have jb3 : ((sumL (pyL τ p) k) + (pyL τ p k)) = (sumL (pyL τ p) (k + 1)) := by rfl
        refine V.eLo (lo' := [(5, .int (nI (k + 1))), (3, .long (sumL (pyL τ p) (k + 1))), (0, .ref mb), (1, .int (nI p)), (2, .int (nI n))]) (congrArg (fun z_ => ([(5, .int (nI (k + 1))), (3, .long z_), (0, .ref mb), (1, .int (nI p)), (2, .int (nI n))] : List (Nat × Value))) jb3) ?_
        refine V.sub [2, 3, 4, 1, 0] (lo' := [(0, .ref mb), (1, .int (nI p)), (2, .int (nI n)), (3, .long (sumL (pyL τ p) (k + 1))), (5, .int (nI (k + 1)))]) rfl ?_
        exact ih10 (k + 1) (by omega) (by omega)
  refine V.sub [2, 3, 4, 1, 0] (lo' := [(0, .ref mb), (1, .int (nI p)), (2, .int (nI n)), (3, .long (lN 0)), (5, .int (nI 0))]) rfl ?_
  exact lp10 _ 0 (Nat.zero_le _) (Nat.lt_succ_self _)
