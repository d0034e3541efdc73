/-! THE CLASS: the book's leaves -/
def erL (j : Nat → Nat → Int64) (r m : Nat) : Int64 := if m % 12 = 0 then lN 0 else j r (m - 1)
def liL (j : Nat → Nat → Int64) (f : Nat → Nat) (m q w : Nat) : Int64 := if w = 0 then j (f (2 + q)) m else if w = 1 then j (f (6 + q)) m else j (f (10 + q)) m
def lnL (j : Nat → Nat → Int64) (f : Nat → Nat) (m w : Nat) : Int64 := if w = 2 then j (f 37) m else if w = 4 then j (f 39) m else if w = 5 then j (f 40) m else if w = 6 then j (f 41) m else if w = 7 then j (f 38) m else sumL (fun q => liL j f m q w) 3
/-- the spec of a garnishment's taking, as the class has it -/
theorem tk_G {τ : Mu} {nt h left : Int64} {g : Nat} : pzL (mnL (mnL (lN (un τ 41 g) - h) (dwnL (nt * lN (un τ 42 g)) (lN 1000))) (left - lN (un τ 43 g))) = tkG τ nt h left g := by
  unfold tkG
  rw [mnL_comm, mnL_comm (lN (un τ 41 g) - h)]
set_option maxHeartbeats 4000000 in
set_option maxRecDepth 100000 in
theorem c_X0_earlier (l : Launch) (hfl : l.flags = flags0) (G : gW) (M : Mem) (o r m q : Nat) (hk : mK M o = 28) (hn : mN M o = 3) (hro : mR M o q = some r) (hk2 : mK M r = 21) (hn2 : mN M r = 24) (hq : q < 3) (hm : m < 24) : CT l yX0_earlier cX0_earlier 3 (some .long) 0 0 0 0 G M [.ref o, .int (nI m), .int (nI q)] (fun v M' => v = some (.long (erL (mL M) r m)) ∧ M = M') := by
  refine CT.of hfl rfl (Nat.le_of_ble_eq_true rfl) ?_
  intro pp ee ss mm ar bw mt cd C hgX hr hini
  refine V.eLo (lo' := [(0, .ref o), (1, .int (nI m)), (2, .int (nI q))]) rfl ?_
  refine r_iload_n C 1 dX0_earlier_0 rfl rfl ?_
  refine r_bipush C (v := nI 12) dX0_earlier_1 (by decide) ?_
  refine r_iremN C (by omega) (by omega) (by omega) dX0_earlier_3 ?_
  refine r_if_neN C (t := 11) (by omega) dX0_earlier_4 (by decide) (fun c4 => ?_) (fun c4 => ?_)
  · skip
    refine r_aload_n C 0 dX0_earlier_11 rfl rfl ?_
    refine r_iload_n C 2 dX0_earlier_12 rfl rfl ?_
    refine r_aaloadN C (b := r) 5 (by decide) hk hn (by omega) (by omega) hro dX0_earlier_13 ?_
    refine r_iload_n C 1 dX0_earlier_14 rfl rfl ?_
    refine r_iconst C (v := nI 1) dX0_earlier_15 (by decide) ?_
    refine r_isubN C (by omega) dX0_earlier_16 ?_
    refine r_laloadN C hk2 hn2 (by omega) (by omega) dX0_earlier_17 ?_
    exact r_lret C hr (⟨by unfold erL; rw [if_neg (by omega)], rfl⟩) (by first | exact Nat.zero_le _ | decide) (by first | exact Nat.zero_le _ | decide) dX0_earlier_18
  · skip
    refine r_lconst C (v := lN 0) dX0_earlier_7 (by decide) ?_
    refine r_goto C (t := 18) dX0_earlier_8 (by decide) ?_
    exact r_lret C hr (⟨by unfold erL; rw [if_pos (by omega)], rfl⟩) (by first | exact Nat.zero_le _ | decide) (by first | exact Nat.zero_le _ | decide) dX0_earlier_18
set_option maxHeartbeats 4000000 in
set_option maxRecDepth 100000 in
theorem c_X0_lineIn (l : Launch) (hfl : l.flags = flags0) (G : gW) (M : Mem) (f : Nat → Nat) (hb : Blk tbBk (mK M) (mN M) (mR M) f) (m q w : Nat) (hm : m < 24) (hq : q < 3) (hw : w = 0 ∨ w = 1 ∨ w = 3) : CT l yX0_lineIn cX0_lineIn 4 (some .long) 0 0 0 0 G M [.ref (f 0), .int (nI m), .int (nI q), .int (nI w)] (fun v M' => v = some (.long (liL (mL M) f m q w)) ∧ M = M') := by
  refine CT.of hfl rfl (Nat.le_of_ble_eq_true rfl) ?_
  intro pp ee ss mm ar bw mt cd C hgX hr hini
  refine V.eLo (lo' := [(0, .ref (f 0)), (1, .int (nI m)), (2, .int (nI q)), (3, .int (nI w))]) rfl ?_
  refine r_iload_n C 3 dX0_lineIn_0 rfl rfl ?_
  rcases (show w = 0 ∨ w = 1 ∨ w = 3 from by omega) with sw1 | sw1 | sw1
  · skip
    refine V.ei (y := nI 0) (congrArg nI sw1) ?_
    refine r_look C (off := 27) (t := 28) dX0_lineIn_1 (by decide) (by decide) (by decide) ?_
    refine r_aload_n C 0 dX0_lineIn_28 rfl rfl ?_
    refine r_getR C (b := (f 1)) fl_X0_17 rfl (hb.k 0 4 rfl) (hb.r 0 1 1 rfl) dX0_lineIn_29 ?_
    refine r_iload_n C 2 dX0_lineIn_32 rfl rfl ?_
    refine r_aaloadN C (b := (f (2 + q))) 5 (by decide) (hb.k 1 28 rfl) (hb.n 1 3 rfl) (by omega) (by omega) (hb.ro 1 2 3 1 rfl q (by omega)) dX0_lineIn_33 ?_
    refine r_iload_n C 1 dX0_lineIn_34 rfl rfl ?_
    refine r_laloadN C (hb.ko 2 21 3 rfl q (by omega)) (hb.no 2 24 3 rfl q (by omega)) (by omega) (by omega) dX0_lineIn_35 ?_
    exact r_lret C hr (⟨by unfold liL; rw [if_pos sw1], rfl⟩) (by first | exact Nat.zero_le _ | decide) (by first | exact Nat.zero_le _ | decide) dX0_lineIn_36
  · skip
    refine V.ei (y := nI 1) (congrArg nI sw1) ?_
    refine r_look C (off := 36) (t := 37) dX0_lineIn_1 (by decide) (by decide) (by decide) ?_
    refine r_aload_n C 0 dX0_lineIn_37 rfl rfl ?_
    refine r_getR C (b := (f 5)) fl_X0_20 rfl (hb.k 0 4 rfl) (hb.r 0 2 5 rfl) dX0_lineIn_38 ?_
    refine r_iload_n C 2 dX0_lineIn_41 rfl rfl ?_
    refine r_aaloadN C (b := (f (6 + q))) 5 (by decide) (hb.k 5 28 rfl) (hb.n 5 3 rfl) (by omega) (by omega) (hb.ro 5 6 3 1 rfl q (by omega)) dX0_lineIn_42 ?_
    refine r_iload_n C 1 dX0_lineIn_43 rfl rfl ?_
    refine r_laloadN C (hb.ko 6 21 3 rfl q (by omega)) (hb.no 6 24 3 rfl q (by omega)) (by omega) (by omega) dX0_lineIn_44 ?_
    exact r_lret C hr (⟨by unfold liL; rw [if_neg (by omega), if_pos sw1], rfl⟩) (by first | exact Nat.zero_le _ | decide) (by first | exact Nat.zero_le _ | decide) dX0_lineIn_45
  · skip
    refine V.ei (y := nI 3) (congrArg nI sw1) ?_
    refine r_look C (off := 45) (t := 46) dX0_lineIn_1 (by decide) (by decide) (by decide) ?_
    refine r_aload_n C 0 dX0_lineIn_46 rfl rfl ?_
    refine r_getR C (b := (f 9)) fl_X0_23 rfl (hb.k 0 4 rfl) (hb.r 0 3 9 rfl) dX0_lineIn_47 ?_
    refine r_iload_n C 2 dX0_lineIn_50 rfl rfl ?_
    refine r_aaloadN C (b := (f (10 + q))) 5 (by decide) (hb.k 9 28 rfl) (hb.n 9 3 rfl) (by omega) (by omega) (hb.ro 9 10 3 1 rfl q (by omega)) dX0_lineIn_51 ?_
    refine r_iload_n C 1 dX0_lineIn_52 rfl rfl ?_
    refine r_laloadN C (hb.ko 10 21 3 rfl q (by omega)) (hb.no 10 24 3 rfl q (by omega)) (by omega) (by omega) dX0_lineIn_53 ?_
    exact r_lret C hr (⟨by unfold liL; rw [if_neg (by omega), if_neg (by omega)], rfl⟩) (by first | exact Nat.zero_le _ | decide) (by first | exact Nat.zero_le _ | decide) dX0_lineIn_54
set_option maxHeartbeats 4000000 in
set_option maxRecDepth 100000 in
theorem c_X0_line (l : Launch) (hfl : l.flags = flags0) (G : gW) (M : Mem) (f : Nat → Nat) (hb : Blk tbBk (mK M) (mN M) (mR M) f) (m w : Nat) (hm : m < 24) (hw : w < 8) : CT l yX0_line cX0_line 6 (some .long) 1 0 0 23 G M [.ref (f 0), .int (nI m), .int (nI w)] (fun v M' => v = some (.long (lnL (mL M) f m w)) ∧ M = M') := by
  refine CT.of hfl rfl (Nat.le_of_ble_eq_true rfl) ?_
  intro pp ee ss mm ar bw mt cd C hgX hr hini
  refine V.eLo (lo' := [(0, .ref (f 0)), (1, .int (nI m)), (2, .int (nI w))]) rfl ?_
  refine r_iload_n C 2 dX0_line_0 rfl rfl ?_
  rcases (show w = 0 ∨ w = 1 ∨ w = 2 ∨ w = 3 ∨ w = 4 ∨ w = 5 ∨ w = 6 ∨ w = 7 from by omega) with sw1 | sw1 | sw1 | sw1 | sw1 | sw1 | sw1 | sw1
  · skip
    refine V.ei (y := nI 0) (congrArg nI sw1) ?_
    refine r_tabOut C (t := 75) dX0_line_1 (by decide) (by decide) ?_
    refine r_lconst C (v := lN 0) dX0_line_75 (by decide) ?_
    refine r_lstore_n C (lo' := [(3, .long (lN 0)), (0, .ref (f 0)), (1, .int (nI m)), (2, .int (nI w))]) dX0_line_76 rfl (by decide) rfl ?_
    refine r_iconst C (v := nI 0) dX0_line_77 (by decide) ?_
    refine r_istore C (lo' := [(5, .int (nI 0)), (3, .long (lN 0)), (0, .ref (f 0)), (1, .int (nI m)), (2, .int (nI w))]) dX0_line_78 (by decide) rfl ?_
    have lp80 : ∀ (k80 : Nat) (q : Nat) (hq : q ≤ 3), 4 - q < k80 → V pp l ee ({ frames := 1, cells := 0, slots := 0, locals := 23 } : Room) ss mm ar bw mt cd G (MQ bw (Ke G (fun v M' => v = some (.long (lnL (mL M) f m w)) ∧ M = M')) ar ss 0 0 (gA G)) 6 M 0 0 80 [(0, .ref (f 0)), (1, .int (nI m)), (2, .int (nI w)), (3, .long (sumL (fun q => liL (mL M) f m q w) q)), (5, .int (nI q))] [] := by
      intro k80
      induction k80 with
      | zero => intro q hq hz80; exact absurd hz80 (Nat.not_lt_zero _)
      | succ k80 ih80 =>
        intro q hq hz80
        refine r_iload C 4 dX0_line_80 rfl ?_
        refine r_iconst C (v := nI 3) dX0_line_82 (by decide) ?_
        refine r_icmp_geN C (t := 103) (by omega) (by omega) dX0_line_83 (by decide) (fun c83 => ?_) (fun c83 => ?_)
        · skip
          have eq3 : q = 3 := by omega
          subst eq3
          refine r_lload_n C 3 dX0_line_103 rfl rfl ?_
          exact r_lret C hr (⟨by unfold lnL; rw [if_neg (by omega), if_neg (by omega), if_neg (by omega), if_neg (by omega), if_neg (by omega)], rfl⟩) (by first | exact Nat.zero_le _ | decide) (by first | exact Nat.zero_le _ | decide) dX0_line_104
        · skip
          refine r_lload_n C 3 dX0_line_86 rfl rfl ?_
          refine r_aload_n C 0 dX0_line_87 rfl rfl ?_
          refine r_iload_n C 1 dX0_line_88 rfl rfl ?_
          refine r_iload C 4 dX0_line_89 rfl ?_
          refine r_iload_n C 2 dX0_line_91 rfl rfl ?_
          refine r_callV C hgX (ci := 3) ml_X0_191 im_X0_lineIn se_X0_lineIn rfl rfl (hb.k 0 4 rfl) (c_X0_lineIn l hfl G M f hb m q w (by omega) (by omega) (by omega)) rfl (Nat.le_of_ble_eq_true rfl) ⟨Nat.le_of_ble_eq_true rfl, Nat.le_of_ble_eq_true rfl⟩ ⟨Nat.le_of_ble_eq_true rfl, Nat.le_of_ble_eq_true rfl⟩ dX0_line_92 rfl ?_
          rintro _ _ ⟨rfl, rfl⟩
          refine V.eSt (st' := [.long (liL (mL M) f m q w), .long (sumL (fun q => liL (mL M) f m q w) q)]) rfl ?_
          refine r_ladd C dX0_line_95 ?_
          refine r_lstore_n C (lo' := [(3, .long ((sumL (fun q => liL (mL M) f m q w) q) + (liL (mL M) f m q w))), (0, .ref (f 0)), (1, .int (nI m)), (2, .int (nI w)), (5, .int (nI q))]) dX0_line_96 rfl (by decide) rfl ?_
          refine r_iinc C (v := nI (q + 1)) (lo' := [(5, .int (nI (q + 1))), (3, .long ((sumL (fun q => liL (mL M) f m q w) q) + (liL (mL M) f m q w))), (0, .ref (f 0)), (1, .int (nI m)), (2, .int (nI w))]) 4 dX0_line_97 rfl (nI_addI q 1) (by decide) rfl ?_
          refine r_goto C (t := 80) dX0_line_100 (by decide) ?_
          have jb3 : ((sumL (fun q => liL (mL M) f m q w) q) + (liL (mL M) f m q w)) = (sumL (fun q => liL (mL M) f m q w) (q + 1)) := by rfl
          refine V.eLo (lo' := [(5, .int (nI (q + 1))), (3, .long (sumL (fun q => liL (mL M) f m q w) (q + 1))), (0, .ref (f 0)), (1, .int (nI m)), (2, .int (nI w))]) (congrArg (fun z_ => ([(5, .int (nI (q + 1))), (3, .long z_), (0, .ref (f 0)), (1, .int (nI m)), (2, .int (nI w))] : List (Nat × Value))) jb3) ?_
          refine V.sub [2, 3, 4, 1, 0] (lo' := [(0, .ref (f 0)), (1, .int (nI m)), (2, .int (nI w)), (3, .long (sumL (fun q => liL (mL M) f m q w) (q + 1))), (5, .int (nI (q + 1)))]) rfl ?_
          exact ih80 (q + 1) (by omega) (by omega)
    refine V.sub [2, 3, 4, 1, 0] (lo' := [(0, .ref (f 0)), (1, .int (nI m)), (2, .int (nI w)), (3, .long (lN 0)), (5, .int (nI 0))]) rfl ?_
    exact lp80 _ 0 (Nat.zero_le _) (Nat.lt_succ_self _)
  · skip
    refine V.ei (y := nI 1) (congrArg nI sw1) ?_
    refine r_tabOut C (t := 75) dX0_line_1 (by decide) (by decide) ?_
    refine r_lconst C (v := lN 0) dX0_line_75 (by decide) ?_
    refine r_lstore_n C (lo' := [(3, .long (lN 0)), (0, .ref (f 0)), (1, .int (nI m)), (2, .int (nI w))]) dX0_line_76 rfl (by decide) rfl ?_
    refine r_iconst C (v := nI 0) dX0_line_77 (by decide) ?_
    refine r_istore C (lo' := [(5, .int (nI 0)), (3, .long (lN 0)), (0, .ref (f 0)), (1, .int (nI m)), (2, .int (nI w))]) dX0_line_78 (by decide) rfl ?_
    have lp80 : ∀ (k80 : Nat) (q : Nat) (hq : q ≤ 3), 4 - q < k80 → V pp l ee ({ frames := 1, cells := 0, slots := 0, locals := 23 } : Room) ss mm ar bw mt cd G (MQ bw (Ke G (fun v M' => v = some (.long (lnL (mL M) f m w)) ∧ M = M')) ar ss 0 0 (gA G)) 6 M 0 0 80 [(0, .ref (f 0)), (1, .int (nI m)), (2, .int (nI w)), (3, .long (sumL (fun q => liL (mL M) f m q w) q)), (5, .int (nI q))] [] := by
      intro k80
      induction k80 with
      | zero => intro q hq hz80; exact absurd hz80 (Nat.not_lt_zero _)
      | succ k80 ih80 =>
        intro q hq hz80
        refine r_iload C 4 dX0_line_80 rfl ?_
        refine r_iconst C (v := nI 3) dX0_line_82 (by decide) ?_
        refine r_icmp_geN C (t := 103) (by omega) (by omega) dX0_line_83 (by decide) (fun c83 => ?_) (fun c83 => ?_)
        · skip
          have eq3 : q = 3 := by omega
          subst eq3
          refine r_lload_n C 3 dX0_line_103 rfl rfl ?_
          exact r_lret C hr (⟨by unfold lnL; rw [if_neg (by omega), if_neg (by omega), if_neg (by omega), if_neg (by omega), if_neg (by omega)], rfl⟩) (by first | exact Nat.zero_le _ | decide) (by first | exact Nat.zero_le _ | decide) dX0_line_104
        · skip
          refine r_lload_n C 3 dX0_line_86 rfl rfl ?_
          refine r_aload_n C 0 dX0_line_87 rfl rfl ?_
          refine r_iload_n C 1 dX0_line_88 rfl rfl ?_
          refine r_iload C 4 dX0_line_89 rfl ?_
          refine r_iload_n C 2 dX0_line_91 rfl rfl ?_
          refine r_callV C hgX (ci := 3) ml_X0_191 im_X0_lineIn se_X0_lineIn rfl rfl (hb.k 0 4 rfl) (c_X0_lineIn l hfl G M f hb m q w (by omega) (by omega) (by omega)) rfl (Nat.le_of_ble_eq_true rfl) ⟨Nat.le_of_ble_eq_true rfl, Nat.le_of_ble_eq_true rfl⟩ ⟨Nat.le_of_ble_eq_true rfl, Nat.le_of_ble_eq_true rfl⟩ dX0_line_92 rfl ?_
          rintro _ _ ⟨rfl, rfl⟩
          refine V.eSt (st' := [.long (liL (mL M) f m q w), .long (sumL (fun q => liL (mL M) f m q w) q)]) rfl ?_
          refine r_ladd C dX0_line_95 ?_
          refine r_lstore_n C (lo' := [(3, .long ((sumL (fun q => liL (mL M) f m q w) q) + (liL (mL M) f m q w))), (0, .ref (f 0)), (1, .int (nI m)), (2, .int (nI w)), (5, .int (nI q))]) dX0_line_96 rfl (by decide) rfl ?_
          refine r_iinc C (v := nI (q + 1)) (lo' := [(5, .int (nI (q + 1))), (3, .long ((sumL (fun q => liL (mL M) f m q w) q) + (liL (mL M) f m q w))), (0, .ref (f 0)), (1, .int (nI m)), (2, .int (nI w))]) 4 dX0_line_97 rfl (nI_addI q 1) (by decide) rfl ?_
          refine r_goto C (t := 80) dX0_line_100 (by decide) ?_
          have jb3 : ((sumL (fun q => liL (mL M) f m q w) q) + (liL (mL M) f m q w)) = (sumL (fun q => liL (mL M) f m q w) (q + 1)) := by rfl
          refine V.eLo (lo' := [(5, .int (nI (q + 1))), (3, .long (sumL (fun q => liL (mL M) f m q w) (q + 1))), (0, .ref (f 0)), (1, .int (nI m)), (2, .int (nI w))]) (congrArg (fun z_ => ([(5, .int (nI (q + 1))), (3, .long z_), (0, .ref (f 0)), (1, .int (nI m)), (2, .int (nI w))] : List (Nat × Value))) jb3) ?_
          refine V.sub [2, 3, 4, 1, 0] (lo' := [(0, .ref (f 0)), (1, .int (nI m)), (2, .int (nI w)), (3, .long (sumL (fun q => liL (mL M) f m q w) (q + 1))), (5, .int (nI (q + 1)))]) rfl ?_
          exact ih80 (q + 1) (by omega) (by omega)
    refine V.sub [2, 3, 4, 1, 0] (lo' := [(0, .ref (f 0)), (1, .int (nI m)), (2, .int (nI w)), (3, .long (lN 0)), (5, .int (nI 0))]) rfl ?_
    exact lp80 _ 0 (Nat.zero_le _) (Nat.lt_succ_self _)
  · skip
    refine V.ei (y := nI 2) (congrArg nI sw1) ?_
    refine r_tabIn C (off := 39) (t := 40) dX0_line_1 (by decide) (by decide) (by decide) (by decide) ?_
    refine r_aload_n C 0 dX0_line_40 rfl rfl ?_
    refine r_getR C (b := (f 37)) fl_X0_45 rfl (hb.k 0 4 rfl) (hb.r 0 10 37 rfl) dX0_line_41 ?_
    refine r_iload_n C 1 dX0_line_44 rfl rfl ?_
    refine r_laloadN C (hb.k 37 21 rfl) (hb.n 37 24 rfl) (by omega) (by omega) dX0_line_45 ?_
    exact r_lret C hr (⟨by unfold lnL; rw [if_pos sw1], rfl⟩) (by first | exact Nat.zero_le _ | decide) (by first | exact Nat.zero_le _ | decide) dX0_line_46
  · skip
    refine V.ei (y := nI 3) (congrArg nI sw1) ?_
    refine r_tabIn C (off := 74) (t := 75) dX0_line_1 (by decide) (by decide) (by decide) (by decide) ?_
    refine r_lconst C (v := lN 0) dX0_line_75 (by decide) ?_
    refine r_lstore_n C (lo' := [(3, .long (lN 0)), (0, .ref (f 0)), (1, .int (nI m)), (2, .int (nI w))]) dX0_line_76 rfl (by decide) rfl ?_
    refine r_iconst C (v := nI 0) dX0_line_77 (by decide) ?_
    refine r_istore C (lo' := [(5, .int (nI 0)), (3, .long (lN 0)), (0, .ref (f 0)), (1, .int (nI m)), (2, .int (nI w))]) dX0_line_78 (by decide) rfl ?_
    have lp80 : ∀ (k80 : Nat) (q : Nat) (hq : q ≤ 3), 4 - q < k80 → V pp l ee ({ frames := 1, cells := 0, slots := 0, locals := 23 } : Room) ss mm ar bw mt cd G (MQ bw (Ke G (fun v M' => v = some (.long (lnL (mL M) f m w)) ∧ M = M')) ar ss 0 0 (gA G)) 6 M 0 0 80 [(0, .ref (f 0)), (1, .int (nI m)), (2, .int (nI w)), (3, .long (sumL (fun q => liL (mL M) f m q w) q)), (5, .int (nI q))] [] := by
      intro k80
      induction k80 with
      | zero => intro q hq hz80; exact absurd hz80 (Nat.not_lt_zero _)
      | succ k80 ih80 =>
        intro q hq hz80
        refine r_iload C 4 dX0_line_80 rfl ?_
        refine r_iconst C (v := nI 3) dX0_line_82 (by decide) ?_
        refine r_icmp_geN C (t := 103) (by omega) (by omega) dX0_line_83 (by decide) (fun c83 => ?_) (fun c83 => ?_)
        · skip
          have eq3 : q = 3 := by omega
          subst eq3
          refine r_lload_n C 3 dX0_line_103 rfl rfl ?_
          exact r_lret C hr (⟨by unfold lnL; rw [if_neg (by omega), if_neg (by omega), if_neg (by omega), if_neg (by omega), if_neg (by omega)], rfl⟩) (by first | exact Nat.zero_le _ | decide) (by first | exact Nat.zero_le _ | decide) dX0_line_104
        · skip
          refine r_lload_n C 3 dX0_line_86 rfl rfl ?_
          refine r_aload_n C 0 dX0_line_87 rfl rfl ?_
          refine r_iload_n C 1 dX0_line_88 rfl rfl ?_
          refine r_iload C 4 dX0_line_89 rfl ?_
          refine r_iload_n C 2 dX0_line_91 rfl rfl ?_
          refine r_callV C hgX (ci := 3) ml_X0_191 im_X0_lineIn se_X0_lineIn rfl rfl (hb.k 0 4 rfl) (c_X0_lineIn l hfl G M f hb m q w (by omega) (by omega) (by omega)) rfl (Nat.le_of_ble_eq_true rfl) ⟨Nat.le_of_ble_eq_true rfl, Nat.le_of_ble_eq_true rfl⟩ ⟨Nat.le_of_ble_eq_true rfl, Nat.le_of_ble_eq_true rfl⟩ dX0_line_92 rfl ?_
          rintro _ _ ⟨rfl, rfl⟩
          refine V.eSt (st' := [.long (liL (mL M) f m q w), .long (sumL (fun q => liL (mL M) f m q w) q)]) rfl ?_
          refine r_ladd C dX0_line_95 ?_
          refine r_lstore_n C (lo' := [(3, .long ((sumL (fun q => liL (mL M) f m q w) q) + (liL (mL M) f m q w))), (0, .ref (f 0)), (1, .int (nI m)), (2, .int (nI w)), (5, .int (nI q))]) dX0_line_96 rfl (by decide) rfl ?_
          refine r_iinc C (v := nI (q + 1)) (lo' := [(5, .int (nI (q + 1))), (3, .long ((sumL (fun q => liL (mL M) f m q w) q) + (liL (mL M) f m q w))), (0, .ref (f 0)), (1, .int (nI m)), (2, .int (nI w))]) 4 dX0_line_97 rfl (nI_addI q 1) (by decide) rfl ?_
          refine r_goto C (t := 80) dX0_line_100 (by decide) ?_
          have jb3 : ((sumL (fun q => liL (mL M) f m q w) q) + (liL (mL M) f m q w)) = (sumL (fun q => liL (mL M) f m q w) (q + 1)) := by rfl
          refine V.eLo (lo' := [(5, .int (nI (q + 1))), (3, .long (sumL (fun q => liL (mL M) f m q w) (q + 1))), (0, .ref (f 0)), (1, .int (nI m)), (2, .int (nI w))]) (congrArg (fun z_ => ([(5, .int (nI (q + 1))), (3, .long z_), (0, .ref (f 0)), (1, .int (nI m)), (2, .int (nI w))] : List (Nat × Value))) jb3) ?_
          refine V.sub [2, 3, 4, 1, 0] (lo' := [(0, .ref (f 0)), (1, .int (nI m)), (2, .int (nI w)), (3, .long (sumL (fun q => liL (mL M) f m q w) (q + 1))), (5, .int (nI (q + 1)))]) rfl ?_
          exact ih80 (q + 1) (by omega) (by omega)
    refine V.sub [2, 3, 4, 1, 0] (lo' := [(0, .ref (f 0)), (1, .int (nI m)), (2, .int (nI w)), (3, .long (lN 0)), (5, .int (nI 0))]) rfl ?_
    exact lp80 _ 0 (Nat.zero_le _) (Nat.lt_succ_self _)
  · skip
    refine V.ei (y := nI 4) (congrArg nI sw1) ?_
    refine r_tabIn C (off := 46) (t := 47) dX0_line_1 (by decide) (by decide) (by decide) (by decide) ?_
    refine r_aload_n C 0 dX0_line_47 rfl rfl ?_
    refine r_getR C (b := (f 39)) fl_X0_52 rfl (hb.k 0 4 rfl) (hb.r 0 12 39 rfl) dX0_line_48 ?_
    refine r_iload_n C 1 dX0_line_51 rfl rfl ?_
    refine r_laloadN C (hb.k 39 21 rfl) (hb.n 39 24 rfl) (by omega) (by omega) dX0_line_52 ?_
    exact r_lret C hr (⟨by unfold lnL; rw [if_neg (by omega), if_pos sw1], rfl⟩) (by first | exact Nat.zero_le _ | decide) (by first | exact Nat.zero_le _ | decide) dX0_line_53
  · skip
    refine V.ei (y := nI 5) (congrArg nI sw1) ?_
    refine r_tabIn C (off := 53) (t := 54) dX0_line_1 (by decide) (by decide) (by decide) (by decide) ?_
    refine r_aload_n C 0 dX0_line_54 rfl rfl ?_
    refine r_getR C (b := (f 40)) fl_X0_55 rfl (hb.k 0 4 rfl) (hb.r 0 13 40 rfl) dX0_line_55 ?_
    refine r_iload_n C 1 dX0_line_58 rfl rfl ?_
    refine r_laloadN C (hb.k 40 21 rfl) (hb.n 40 24 rfl) (by omega) (by omega) dX0_line_59 ?_
    exact r_lret C hr (⟨by unfold lnL; rw [if_neg (by omega), if_neg (by omega), if_pos sw1], rfl⟩) (by first | exact Nat.zero_le _ | decide) (by first | exact Nat.zero_le _ | decide) dX0_line_60
  · skip
    refine V.ei (y := nI 6) (congrArg nI sw1) ?_
    refine r_tabIn C (off := 60) (t := 61) dX0_line_1 (by decide) (by decide) (by decide) (by decide) ?_
    refine r_aload_n C 0 dX0_line_61 rfl rfl ?_
    refine r_getR C (b := (f 41)) fl_X0_58 rfl (hb.k 0 4 rfl) (hb.r 0 14 41 rfl) dX0_line_62 ?_
    refine r_iload_n C 1 dX0_line_65 rfl rfl ?_
    refine r_laloadN C (hb.k 41 21 rfl) (hb.n 41 24 rfl) (by omega) (by omega) dX0_line_66 ?_
    exact r_lret C hr (⟨by unfold lnL; rw [if_neg (by omega), if_neg (by omega), if_neg (by omega), if_pos sw1], rfl⟩) (by first | exact Nat.zero_le _ | decide) (by first | exact Nat.zero_le _ | decide) dX0_line_67
  · skip
    refine V.ei (y := nI 7) (congrArg nI sw1) ?_
    refine r_tabIn C (off := 67) (t := 68) dX0_line_1 (by decide) (by decide) (by decide) (by decide) ?_
    refine r_aload_n C 0 dX0_line_68 rfl rfl ?_
    refine r_getR C (b := (f 38)) fl_X0_49 rfl (hb.k 0 4 rfl) (hb.r 0 11 38 rfl) dX0_line_69 ?_
    refine r_iload_n C 1 dX0_line_72 rfl rfl ?_
    refine r_laloadN C (hb.k 38 21 rfl) (hb.n 38 24 rfl) (by omega) (by omega) dX0_line_73 ?_
    exact r_lret C hr (⟨by unfold lnL; rw [if_neg (by omega), if_neg (by omega), if_neg (by omega), if_neg (by omega), if_pos sw1], rfl⟩) (by first | exact Nat.zero_le _ | decide) (by first | exact Nat.zero_le _ | decide) dX0_line_74
theorem vs_t {τ : Mu} {p k : Nat} (h : ¬ pnL τ p k ≤ lN 0) : vsN τ p k + 1 = vsN τ p (k + 1) := by
  show _ = vsN τ p k + (if lN 0 < pnL τ p (0 + k) then 1 else 0)
  rw [Nat.zero_add, if_pos (Int64.not_le.mp h)]
theorem vs_f {τ : Mu} {p k : Nat} (h : pnL τ p k ≤ lN 0) : vsN τ p k + 0 = vsN τ p (k + 1) := by
  show _ = vsN τ p k + (if lN 0 < pnL τ p (0 + k) then 1 else 0)
  rw [Nat.zero_add, if_neg (Int64.not_lt.mpr h)]
/-- what a garnishment's cells hold -/
def GaF (τ : Mu) (g : Nat) (i : Nat → Nat → Int32) (f : Nat → Nat) : Prop := i (f 0) 0 = nI (un τ 38 g) ∧ i (f 0) 1 = nI (un τ 39 g) ∧ i (f 0) 2 = nI (un τ 40 g) ∧ i (f 0) 3 = nI (un τ 41 g) ∧ i (f 0) 4 = nI (un τ 42 g) ∧ i (f 0) 5 = nI (un τ 43 g)
def erG (j : Nat → Nat → Int64) (r m : Nat) : Int64 := if m = 0 then lN 0 else j r (m - 1)
set_option maxHeartbeats 4000000 in
set_option maxRecDepth 100000 in
theorem c_X5_take (l : Launch) (hfl : l.flags = flags0) (G : gW) (M : Mem) (f : Nat → Nat) (hb : Blk tbGa (mK M) (mN M) (mR M) f) (τ : Mu) (hw : WF τ) (g : Nat) (hg : g < un τ 44 44) (hf : GaF τ g (mI M) f) (m : Nat) (hm : m < 24) (nt left : Int64) : CT l yX5_take cX5_take 12 (some .long) 2 0 0 53 G M [.ref (f 0), .int (nI m), .long nt, .long left] (fun v M' => v = some (.long (if un τ 39 g ≤ m then tkG τ nt (erG (mL M) (f 1) m) left g else lN 0)) ∧ frm (fun a => a = f 1) M M' ∧ mL M' (f 1) m = erG (mL M) (f 1) m + (if un τ 39 g ≤ m then tkG τ nt (erG (mL M) (f 1) m) left g else lN 0) ∧ ∀ k, k ≠ m → mL M' (f 1) k = mL M (f 1) k) := by
  refine CT.of hfl rfl (Nat.le_of_ble_eq_true rfl) ?_
  intro pp ee ss mm ar bw mt cd C hgX hr hini
  obtain ⟨hg0, hg1, hg2, hg3, hg4, hg5⟩ := id hf
  have hgm := (hw.gm g hg).2
  have hgt := (hw.gt g hg).2
  have hgp := (hw.gp g hg).2
  have hgk := (hw.gk g hg).2
  refine V.eLo (lo' := [(0, .ref (f 0)), (1, .int (nI m)), (2, .long nt), (4, .long left)]) rfl ?_
  have jn16 : V pp l ee ({ frames := 2, cells := 0, slots := 0, locals := 53 } : Room) ss mm ar bw mt cd G (MQ bw (Ke G (fun v M' => v = some (.long (if un τ 39 g ≤ m then tkG τ nt (erG (mL M) (f 1) m) left g else lN 0)) ∧ frm (fun a => a = f 1) M M' ∧ mL M' (f 1) m = erG (mL M) (f 1) m + (if un τ 39 g ≤ m then tkG τ nt (erG (mL M) (f 1) m) left g else lN 0) ∧ ∀ k, k ≠ m → mL M' (f 1) k = mL M (f 1) k)) ar ss 0 0 (gA G)) 12 M 0 0 16 [(0, .ref (f 0)), (1, .int (nI m)), (2, .long nt), (4, .long left)] [.long (erG (mL M) (f 1) m)] := by
    skip
    refine r_lstore C (lo' := [(6, .long (erG (mL M) (f 1) m)), (0, .ref (f 0)), (1, .int (nI m)), (2, .long nt), (4, .long left)]) dX5_take_16 (by decide) rfl ?_
    refine r_lconst C (v := lN 0) dX5_take_18 (by decide) ?_
    refine r_lstore C (lo' := [(8, .long (lN 0)), (6, .long (erG (mL M) (f 1) m)), (0, .ref (f 0)), (1, .int (nI m)), (2, .long nt), (4, .long left)]) dX5_take_19 (by decide) rfl ?_
    refine r_iload_n C 3 dX5_take_21 rfl rfl ?_
    refine r_aload_n C 2 dX5_take_22 rfl rfl ?_
    refine r_getI C fl_X5_19 rfl (hb.k 0 8 rfl) dX5_take_23 ?_
    refine V.ei (y := nI (un τ 39 g)) (hg1) ?_
    refine r_icmp_ltN C (t := 74) (by omega) (by omega) dX5_take_26 (by decide) (fun c26 => ?_) (fun c26 => ?_)
    · skip
      refine r_aload_n C 2 dX5_take_74 rfl rfl ?_
      refine r_getR C (b := (f 1)) fl_X5_9 rfl (hb.k 0 8 rfl) (hb.r 0 6 1 rfl) dX5_take_75 ?_
      refine r_iload_n C 3 dX5_take_78 rfl rfl ?_
      refine r_lload C 1 dX5_take_79 rfl ?_
      refine r_lload C 0 dX5_take_81 rfl ?_
      refine r_ladd C dX5_take_83 ?_
      refine r_lastoreN C (hb.k 1 21 rfl) (hb.n 1 24 rfl) (by omega) (by omega) dX5_take_84 ?_
      refine r_lload C 0 dX5_take_85 rfl ?_
      exact r_lret C hr (⟨by rw [if_neg (by omega)], (frm.rf _ _).wl _ _ rfl, by rw [if_neg (by omega)]; exact wL_i, fun k hk => wL_k hk⟩) (by first | exact Nat.zero_le _ | decide) (by first | exact Nat.zero_le _ | decide) dX5_take_87
    · skip
      refine r_aload_n C 2 dX5_take_29 rfl rfl ?_
      refine r_getI C fl_X5_25 rfl (hb.k 0 8 rfl) dX5_take_30 ?_
      refine V.ei (y := nI (un τ 41 g)) (hg3) ?_
      refine r_i2lN C (by omega) dX5_take_33 ?_
      refine r_lload C 1 dX5_take_34 rfl ?_
      refine r_lsub C dX5_take_36 ?_
      refine r_lload_n C 4 dX5_take_37 rfl rfl ?_
      refine r_aload_n C 2 dX5_take_38 rfl rfl ?_
      refine r_getI C fl_X5_28 rfl (hb.k 0 8 rfl) dX5_take_39 ?_
      refine V.ei (y := nI (un τ 42 g)) (hg4) ?_
      refine r_i2lN C (by omega) dX5_take_42 ?_
      refine r_lmul C dX5_take_43 ?_
      refine r_ldc2 C (v := 1000) kl_X5_34 dX5_take_44 ?_
      refine V.el (y := lN 1000) (by decide) ?_
      refine r_callS C hgX ml_X5_36 st_X2_roundedDown (c_X2_roundedDown l hfl G M (nt * (lN (un τ 42 g))) 1000 (by omega)) rfl (Nat.le_of_ble_eq_true rfl) ⟨Nat.le_of_ble_eq_true rfl, Nat.le_of_ble_eq_true rfl⟩ ⟨Nat.le_of_ble_eq_true rfl, Nat.le_of_ble_eq_true rfl⟩ dX5_take_47 rfl ?_
      rintro _ _ ⟨rfl, rfl⟩
      refine V.eSt (st' := [.long (rdD (nt * (lN (un τ 42 g))) (lN 1000)), .long ((lN (un τ 41 g)) - (erG (mL M) (f 1) m))]) rfl ?_
      refine V.el (y := dwnL (nt * lN (un τ 42 g)) (lN 1000)) (rdD_dwn (by decide) (by decide)) ?_
      refine r_minL C km_X5_42 (Nat.le_of_ble_eq_true rfl) (Nat.le_of_ble_eq_true rfl) (by first | exact Nat.zero_le _ | decide) (by first | exact Nat.zero_le _ | decide) dX5_take_50 ?_
      refine V.el (y := mnL (lN (un τ 41 g) - erG (mL M) (f 1) m) (dwnL (nt * lN (un τ 42 g)) (lN 1000))) (lmin_mn _ _) ?_
      refine r_lstore C (lo' := [(10, .long (mnL (lN (un τ 41 g) - erG (mL M) (f 1) m) (dwnL (nt * lN (un τ 42 g)) (lN 1000)))), (8, .long (lN 0)), (6, .long (erG (mL M) (f 1) m)), (0, .ref (f 0)), (1, .int (nI m)), (2, .long nt), (4, .long left)]) dX5_take_53 (by decide) rfl ?_
      refine r_lconst C (v := lN 0) dX5_take_55 (by decide) ?_
      refine r_lload C 0 dX5_take_56 rfl ?_
      refine r_lload C 6 dX5_take_58 rfl ?_
      refine r_aload_n C 3 dX5_take_60 rfl rfl ?_
      refine r_getI C fl_X5_31 rfl (hb.k 0 8 rfl) dX5_take_61 ?_
      refine V.ei (y := nI (un τ 43 g)) (hg5) ?_
      refine r_i2lN C (by omega) dX5_take_64 ?_
      refine r_lsub C dX5_take_65 ?_
      refine r_minL C km_X5_42 (Nat.le_of_ble_eq_true rfl) (Nat.le_of_ble_eq_true rfl) (by first | exact Nat.zero_le _ | decide) (by first | exact Nat.zero_le _ | decide) dX5_take_66 ?_
      refine r_maxL C km_X5_47 (Nat.le_of_ble_eq_true rfl) (Nat.le_of_ble_eq_true rfl) (by first | exact Nat.zero_le _ | decide) (by first | exact Nat.zero_le _ | decide) dX5_take_69 ?_
      refine V.el (y := tkG τ nt (erG (mL M) (f 1) m) left g) (by rw [lmax_pz, lmin_mn, tk_G]) ?_
      refine r_lstore C (lo' := [(8, .long (tkG τ nt (erG (mL M) (f 1) m) left g)), (10, .long (mnL (lN (un τ 41 g) - erG (mL M) (f 1) m) (dwnL (nt * lN (un τ 42 g)) (lN 1000)))), (6, .long (erG (mL M) (f 1) m)), (0, .ref (f 0)), (1, .int (nI m)), (2, .long nt), (4, .long left)]) dX5_take_72 (by decide) rfl ?_
      refine r_aload_n C 3 dX5_take_74 rfl rfl ?_
      refine r_getR C (b := (f 1)) fl_X5_9 rfl (hb.k 0 8 rfl) (hb.r 0 6 1 rfl) dX5_take_75 ?_
      refine r_iload_n C 4 dX5_take_78 rfl rfl ?_
      refine r_lload C 2 dX5_take_79 rfl ?_
      refine r_lload C 0 dX5_take_81 rfl ?_
      refine r_ladd C dX5_take_83 ?_
      refine r_lastoreN C (hb.k 1 21 rfl) (hb.n 1 24 rfl) (by omega) (by omega) dX5_take_84 ?_
      refine r_lload C 0 dX5_take_85 rfl ?_
      exact r_lret C hr (⟨by rw [if_pos (by omega)], (frm.rf _ _).wl _ _ rfl, by rw [if_pos (by omega)]; exact wL_i, fun k hk => wL_k hk⟩) (by first | exact Nat.zero_le _ | decide) (by first | exact Nat.zero_le _ | decide) dX5_take_87
  refine r_iload_n C 1 dX5_take_0 rfl rfl ?_
  refine r_if_neN C (t := 8) (by omega) dX5_take_1 (by decide) (fun c1 => ?_) (fun c1 => ?_)
  · skip
    refine r_aload_n C 0 dX5_take_8 rfl rfl ?_
    refine r_getR C (b := (f 1)) fl_X5_9 rfl (hb.k 0 8 rfl) (hb.r 0 6 1 rfl) dX5_take_9 ?_
    refine r_iload_n C 1 dX5_take_12 rfl rfl ?_
    refine r_iconst C (v := nI 1) dX5_take_13 (by decide) ?_
    refine r_isubN C (by omega) dX5_take_14 ?_
    refine r_laloadN C (hb.k 1 21 rfl) (hb.n 1 24 rfl) (by omega) (by omega) dX5_take_15 ?_
    refine V.el (y := erG (mL M) (f 1) m) (by unfold erG; rw [if_neg (by omega)]) ?_
    exact jn16
  · skip
    refine r_lconst C (v := lN 0) dX5_take_4 (by decide) ?_
    refine r_goto C (t := 16) dX5_take_5 (by decide) ?_
    refine V.el (y := erG (mL M) (f 1) m) (by unfold erG; rw [if_pos (by omega)]) ?_
    exact jn16

