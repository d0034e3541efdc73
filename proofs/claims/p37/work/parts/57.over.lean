set_option maxHeartbeats 4000000 in
set_option maxRecDepth 100000 in
theorem c_X3_overtimeIn (l : Launch) (hfl : l.flags = flags0) (G : gW) (M : Mem) (f : Nat → Nat) (hb : Blk tbCo (mK M) (mN M) (mR M) f) (τ : Mu) (hw : WF τ) (c : Nat) (hc : c < un τ 9 9) (hf : CoF τ c (mI M) f) (w : Nat) (hwk : w < 103) : CT l yX3_overtimeIn cX3_overtimeIn 6 (some .int) 1 0 0 30 G M [.ref (f 0), .int (nI w)] (fun v M' => v = some (.int (nI (overN τ c w))) ∧ M = M') := by
  refine CT.of hfl rfl (Nat.le_of_ble_eq_true rfl) ?_
  intro pp ee ss mm ar bw mt cd C hgX hr hini
  have h9 := hw.nc.2
  have hcf := (hw.cf c hc).2
  have hct := (hw.ct c hc).2
  have hft := hw.cft c hc
  have hcn := (hw.cn c hc).2
  have hcn0 := hw.cn0 c hc
  obtain ⟨hf0, hf1, hf2, hf3, hf4, hf5, hpy, hmi⟩ := id hf
  refine V.eLo (lo' := [(0, .ref (f 0)), (1, .int (nI w))]) rfl ?_
  refine r_iconst C (v := nI 0) dX3_overtimeIn_0 (by decide) ?_
  refine r_istore_n C (lo' := [(2, .int (nI 0)), (0, .ref (f 0)), (1, .int (nI w))]) dX3_overtimeIn_1 rfl (by decide) rfl ?_
  refine r_iconst C (v := nI 0) dX3_overtimeIn_2 (by decide) ?_
  refine r_istore_n C (lo' := [(3, .int (nI 0)), (2, .int (nI 0)), (0, .ref (f 0)), (1, .int (nI w))]) dX3_overtimeIn_3 rfl (by decide) rfl ?_
  refine r_iload_n C 3 dX3_overtimeIn_4 rfl rfl ?_
  refine r_bipush C (v := nI 7) dX3_overtimeIn_5 (by decide) ?_
  refine r_imulN C dX3_overtimeIn_7 ?_
  refine V.ei (y := nI (7 * w)) (congrArg nI (Nat.mul_comm _ _)) ?_
  refine r_istore C (lo' := [(4, .int (nI (7 * w))), (3, .int (nI 0)), (2, .int (nI 0)), (0, .ref (f 0)), (1, .int (nI w))]) dX3_overtimeIn_8 (by decide) rfl ?_
  refine r_iload C 0 dX3_overtimeIn_10 rfl ?_
  refine r_istore C (lo' := [(5, .int (nI (7 * w))), (4, .int (nI (7 * w))), (3, .int (nI 0)), (2, .int (nI 0)), (0, .ref (f 0)), (1, .int (nI w))]) dX3_overtimeIn_12 (by decide) rfl ?_
  have lp14 : ∀ (k14 : Nat) (n : Nat) (hn : n ≤ ovE w), ovE w + 1 - n < k14 → V pp l ee ({ frames := 1, cells := 0, slots := 0, locals := 30 } : Room) ss mm ar bw mt cd G (MQ bw (Ke G (fun v M' => v = some (.int (nI (overN τ c w))) ∧ M = M')) ar ss 0 0 (gA G)) 6 M 0 0 14 [(0, .ref (f 0)), (1, .int (nI w)), (2, .int (nI (ovD τ c w n))), (3, .int (nI (ovA τ c w n))), (4, .int (nI (7 * w))), (5, .int (nI (7 * w + n)))] [] := by
    intro k14
    induction k14 with
    | zero => intro n hn hz14; exact absurd hz14 (Nat.not_lt_zero _)
    | succ k14 ih14 =>
      intro n hn hz14
      have he : ovE w ≤ 7 ∧ 7 * w + ovE w ≤ 720 := by unfold ovE; omega
      have hA := ovA_le (w := w) (n := n) hw (show c < 10 by omega) (by omega)
      have hD := ovD_le (w := w) (n := n) hw (show c < 10 by omega) (by omega)
      refine r_iload C 5 dX3_overtimeIn_14 rfl ?_
      refine r_iload C 4 dX3_overtimeIn_16 rfl ?_
      refine r_bipush C (v := nI 7) dX3_overtimeIn_18 (by decide) ?_
      refine r_iaddN C dX3_overtimeIn_20 ?_
      refine r_icmp_geN C (t := 67) (by omega) (by omega) dX3_overtimeIn_21 (by decide) (fun c21 => ?_) (fun c21 => ?_)
      · skip
        have en : n = ovE w := by unfold ovE at *; omega
        refine r_iload_n C 2 dX3_overtimeIn_67 rfl rfl ?_
        refine r_iload_n C 3 dX3_overtimeIn_68 rfl rfl ?_
        refine r_iconst C (v := nI 5) dX3_overtimeIn_69 (by decide) ?_
        refine r_aload_n C 0 dX3_overtimeIn_70 rfl rfl ?_
        refine r_getI C fl_X3_60 rfl (hb.k 0 6 rfl) dX3_overtimeIn_71 ?_
        refine V.ei (y := nI (un τ 5 c)) (hf5) ?_
        refine r_imulN C dX3_overtimeIn_74 ?_
        refine r_isub C dX3_overtimeIn_75 ?_
        refine r_maxI C km_X3_71 (Nat.le_of_ble_eq_true rfl) (Nat.le_of_ble_eq_true rfl) (by first | exact Nat.zero_le _ | decide) (by first | exact Nat.zero_le _ | decide) dX3_overtimeIn_76 ?_
        refine V.ei (y := nI (max (ovD τ c w n) (ovA τ c w n - 5 * un τ 5 c))) (imax_sub (by omega) (by omega) (by omega)) ?_
        exact r_iret C hr (⟨by subst en; rfl, rfl⟩) (by first | exact Nat.zero_le _ | decide) (by first | exact Nat.zero_le _ | decide) dX3_overtimeIn_79
      · skip
        refine r_iload C 5 dX3_overtimeIn_24 rfl ?_
        refine r_sipush C (v := nI 720) dX3_overtimeIn_26 (by decide) ?_
        refine r_icmp_geN C (t := 67) (by omega) (by omega) dX3_overtimeIn_29 (by decide) (fun c29 => ?_) (fun c29 => ?_)
        · skip
          have en : n = ovE w := by unfold ovE at *; omega
          refine r_iload_n C 2 dX3_overtimeIn_67 rfl rfl ?_
          refine r_iload_n C 3 dX3_overtimeIn_68 rfl rfl ?_
          refine r_iconst C (v := nI 5) dX3_overtimeIn_69 (by decide) ?_
          refine r_aload_n C 0 dX3_overtimeIn_70 rfl rfl ?_
          refine r_getI C fl_X3_60 rfl (hb.k 0 6 rfl) dX3_overtimeIn_71 ?_
          refine V.ei (y := nI (un τ 5 c)) (hf5) ?_
          refine r_imulN C dX3_overtimeIn_74 ?_
          refine r_isub C dX3_overtimeIn_75 ?_
          refine r_maxI C km_X3_71 (Nat.le_of_ble_eq_true rfl) (Nat.le_of_ble_eq_true rfl) (by first | exact Nat.zero_le _ | decide) (by first | exact Nat.zero_le _ | decide) dX3_overtimeIn_76 ?_
          refine V.ei (y := nI (max (ovD τ c w n) (ovA τ c w n - 5 * un τ 5 c))) (imax_sub (by omega) (by omega) (by omega)) ?_
          exact r_iret C hr (⟨by subst en; rfl, rfl⟩) (by first | exact Nat.zero_le _ | decide) (by first | exact Nat.zero_le _ | decide) dX3_overtimeIn_79
        · skip
          have h0 : 7 * w + n < 720 := by omega
          have hm7 := mins_le hw (i := 720 * c + (7 * w + n)) (by omega)
          refine r_iload_n C 2 dX3_overtimeIn_32 rfl rfl ?_
          refine r_iconst C (v := nI 0) dX3_overtimeIn_33 (by decide) ?_
          refine r_aload_n C 0 dX3_overtimeIn_34 rfl rfl ?_
          refine r_getR C (b := (f 4)) fl_X3_20 rfl (hb.k 0 6 rfl) (hb.r 0 7 4 rfl) dX3_overtimeIn_35 ?_
          refine r_iload C 5 dX3_overtimeIn_38 rfl ?_
          refine r_ialoadN C (hb.k 4 20 rfl) (hb.n 4 720 rfl) (by omega) (by omega) dX3_overtimeIn_40 ?_
          refine V.ei (y := nI (un τ 8 (720 * c + (7 * w + n)))) (hmi _ (by omega)) ?_
          refine r_aload_n C 0 dX3_overtimeIn_41 rfl rfl ?_
          refine r_getI C fl_X3_60 rfl (hb.k 0 6 rfl) dX3_overtimeIn_42 ?_
          refine V.ei (y := nI (un τ 5 c)) (hf5) ?_
          refine r_isub C dX3_overtimeIn_45 ?_
          refine r_maxI C km_X3_71 (Nat.le_of_ble_eq_true rfl) (Nat.le_of_ble_eq_true rfl) (by first | exact Nat.zero_le _ | decide) (by first | exact Nat.zero_le _ | decide) dX3_overtimeIn_46 ?_
          refine V.ei (y := nI (max 0 (un τ 8 (720 * c + (7 * w + n)) - un τ 5 c))) (imax_sub (by omega) (by omega) (by omega)) ?_
          refine r_iaddN C dX3_overtimeIn_49 ?_
          refine r_istore_n C (lo' := [(2, .int (nI (ovD τ c w n + (max 0 (un τ 8 (720 * c + (7 * w + n)) - un τ 5 c))))), (0, .ref (f 0)), (1, .int (nI w)), (3, .int (nI (ovA τ c w n))), (4, .int (nI (7 * w))), (5, .int (nI (7 * w + n)))]) dX3_overtimeIn_50 rfl (by decide) rfl ?_
          refine r_iload_n C 3 dX3_overtimeIn_51 rfl rfl ?_
          refine r_aload_n C 1 dX3_overtimeIn_52 rfl rfl ?_
          refine r_getR C (b := (f 4)) fl_X3_20 rfl (hb.k 0 6 rfl) (hb.r 0 7 4 rfl) dX3_overtimeIn_53 ?_
          refine r_iload C 5 dX3_overtimeIn_56 rfl ?_
          refine r_ialoadN C (hb.k 4 20 rfl) (hb.n 4 720 rfl) (by omega) (by omega) dX3_overtimeIn_58 ?_
          refine V.ei (y := nI (un τ 8 (720 * c + (7 * w + n)))) (hmi _ (by omega)) ?_
          refine r_iaddN C dX3_overtimeIn_59 ?_
          refine r_istore_n C (lo' := [(3, .int (nI (ovA τ c w n + (un τ 8 (720 * c + (7 * w + n)))))), (2, .int (nI (ovD τ c w n + (max 0 (un τ 8 (720 * c + (7 * w + n)) - un τ 5 c))))), (0, .ref (f 0)), (1, .int (nI w)), (4, .int (nI (7 * w))), (5, .int (nI (7 * w + n)))]) dX3_overtimeIn_60 rfl (by decide) rfl ?_
          refine r_iinc C (v := nI (7 * w + n + 1)) (lo' := [(5, .int (nI (7 * w + n + 1))), (3, .int (nI (ovA τ c w n + (un τ 8 (720 * c + (7 * w + n)))))), (2, .int (nI (ovD τ c w n + (max 0 (un τ 8 (720 * c + (7 * w + n)) - un τ 5 c))))), (0, .ref (f 0)), (1, .int (nI w)), (4, .int (nI (7 * w)))]) 5 dX3_overtimeIn_61 rfl (nI_addI (7 * w + n) 1) (by decide) rfl ?_
          refine r_goto C (t := 14) dX3_overtimeIn_64 (by decide) ?_
          have jb2 : (ovD τ c w n + (max 0 (un τ 8 (720 * c + (7 * w + n)) - un τ 5 c))) = (ovD τ c w (n + 1)) := by show ovD τ c w n + max 0 (un τ 8 (720 * c + (7 * w + n)) - un τ 5 c) = ovD τ c w n + (un τ 8 (720 * c + (7 * w + n)) - un τ 5 c); omega
          refine V.eLo (lo' := [(5, .int (nI (7 * w + n + 1))), (3, .int (nI (ovA τ c w n + (un τ 8 (720 * c + (7 * w + n)))))), (2, .int (nI (ovD τ c w (n + 1)))), (0, .ref (f 0)), (1, .int (nI w)), (4, .int (nI (7 * w)))]) (congrArg (fun z_ => ([(5, .int (nI (7 * w + n + 1))), (3, .int (nI (ovA τ c w n + (un τ 8 (720 * c + (7 * w + n)))))), (2, .int (nI z_)), (0, .ref (f 0)), (1, .int (nI w)), (4, .int (nI (7 * w)))] : List (Nat × Value))) jb2) ?_
          have jb3 : (ovA τ c w n + (un τ 8 (720 * c + (7 * w + n)))) = (ovA τ c w (n + 1)) := by rfl
          refine V.eLo (lo' := [(5, .int (nI (7 * w + n + 1))), (3, .int (nI (ovA τ c w (n + 1)))), (2, .int (nI (ovD τ c w (n + 1)))), (0, .ref (f 0)), (1, .int (nI w)), (4, .int (nI (7 * w)))]) (congrArg (fun z_ => ([(5, .int (nI (7 * w + n + 1))), (3, .int (nI z_)), (2, .int (nI (ovD τ c w (n + 1)))), (0, .ref (f 0)), (1, .int (nI w)), (4, .int (nI (7 * w)))] : List (Nat × Value))) jb3) ?_
          refine V.sub [3, 4, 2, 1, 5, 0] (lo' := [(0, .ref (f 0)), (1, .int (nI w)), (2, .int (nI (ovD τ c w (n + 1)))), (3, .int (nI (ovA τ c w (n + 1)))), (4, .int (nI (7 * w))), (5, .int (nI (7 * w + n + 1)))]) rfl ?_
          exact ih14 (n + 1) (by unfold ovE; omega) (by omega)
  refine V.sub [4, 5, 3, 2, 1, 0] (lo' := [(0, .ref (f 0)), (1, .int (nI w)), (2, .int (nI 0)), (3, .int (nI 0)), (4, .int (nI (7 * w))), (5, .int (nI (7 * w)))]) rfl ?_
  exact lp14 _ 0 (Nat.zero_le _) (Nat.lt_succ_self _)
set_option maxHeartbeats 4000000 in
set_option maxRecDepth 100000 in
theorem c_X3_overtimePay (l : Launch) (hfl : l.flags = flags0) (G : gW) (M : Mem) (f : Nat → Nat) (hb : Blk tbCo (mK M) (mN M) (mR M) f) (τ : Mu) (hw : WF τ) (c : Nat) (hc : c < un τ 9 9) (hf : CoF τ c (mI M) f) (n d : Nat) (hn : n ≤ 403200) (hd : d < 720) : CT l yX3_overtimePay cX3_overtimePay 5 (some .long) 2 0 0 53 G M [.ref (f 0), .int (nI n), .int (nI d)] (fun v M' => v = some (.long (lN (rN (hrC' τ c d * n) 120))) ∧ M = M') := by
  refine CT.of hfl rfl (Nat.le_of_ble_eq_true rfl) ?_
  intro pp ee ss mm ar bw mt cd C hgX hr hini
  have h9 := hw.nc.2
  have hcf := (hw.cf c hc).2
  have hct := (hw.ct c hc).2
  have hft := hw.cft c hc
  have hcn := (hw.cn c hc).2
  have hcn0 := hw.cn0 c hc
  obtain ⟨hf0, hf1, hf2, hf3, hf4, hf5, hpy, hmi⟩ := id hf
  have hhl := hrC'_le hw (d := d) hc
  have hpl := pyC_le hw (d := d) hc
  have hbx : hrC' τ c d * n ≤ 1000000 * 403200 := Nat.mul_le_mul hhl hn
  refine V.eLo (lo' := [(0, .ref (f 0)), (1, .int (nI n)), (2, .int (nI d))]) rfl ?_
  refine r_iload_n C 1 dX3_overtimePay_0 rfl rfl ?_
  refine r_if_gtN C (t := 6) (by omega) dX3_overtimePay_1 (by decide) (fun c1 => ?_) (fun c1 => ?_)
  · skip
    have jn44 : V pp l ee ({ frames := 2, cells := 0, slots := 0, locals := 53 } : Room) ss mm ar bw mt cd G (MQ bw (Ke G (fun v M' => v = some (.long (lN (rN (hrC' τ c d * n) 120))) ∧ M = M')) ar ss 0 0 (gA G)) 5 M 0 0 44 [(0, .ref (f 0)), (1, .int (nI n)), (2, .int (nI d))] [.long (lN (hrC' τ c d))] := by
      skip
      refine r_lstore_n C (lo' := [(3, .long (lN (hrC' τ c d))), (0, .ref (f 0)), (1, .int (nI n)), (2, .int (nI d))]) dX3_overtimePay_44 rfl (by decide) rfl ?_
      refine r_lload_n C 0 dX3_overtimePay_45 rfl rfl ?_
      refine r_iload_n C 2 dX3_overtimePay_46 rfl rfl ?_
      refine r_i2lN C (by omega) dX3_overtimePay_47 ?_
      refine r_lmulN C dX3_overtimePay_48 ?_
      refine r_ldc2 C (v := 120) kl_X3_113 dX3_overtimePay_49 ?_
      refine V.el (y := lN 120) (by decide) ?_
      refine r_callS C hgX ml_X3_107 st_X2_rounded (c_X2_rounded l hfl G M (lN ((hrC' τ c d) * n)) 120 (by omega)) rfl (Nat.le_of_ble_eq_true rfl) ⟨Nat.le_of_ble_eq_true rfl, Nat.le_of_ble_eq_true rfl⟩ ⟨Nat.le_of_ble_eq_true rfl, Nat.le_of_ble_eq_true rfl⟩ dX3_overtimePay_52 rfl ?_
      rintro _ _ ⟨rfl, rfl⟩
      refine V.eSt (st' := [.long (rdF (lN ((hrC' τ c d) * n)) (lN 120))]) rfl ?_
      refine V.el (y := lN (rN (hrC' τ c d * n) 120)) ((rdF_rnd (by omega) (by omega)).trans (rndL_N (by omega) (by omega) (by omega))) ?_
      exact r_lret C hr (⟨rfl, rfl⟩) (by first | exact Nat.zero_le _ | decide) (by first | exact Nat.zero_le _ | decide) dX3_overtimePay_55
    refine r_aload_n C 0 dX3_overtimePay_6 rfl rfl ?_
    refine r_getI C fl_X3_57 rfl (hb.k 0 6 rfl) dX3_overtimePay_7 ?_
    refine V.ei (y := bI (decide (un τ 4 c = 1))) (hf4) ?_
    refine r_if_eqB C (t := 22) dX3_overtimePay_10 (by decide) (fun c10 => ?_) (fun c10 => ?_)
    · skip
      have c10d := of_decide_eq_false c10
      refine r_ldc2 C (v := 60) kl_X3_103 dX3_overtimePay_22 ?_
      refine V.el (y := lN 60) (by decide) ?_
      refine r_aload_n C 0 dX3_overtimePay_25 rfl rfl ?_
      refine r_iload_n C 2 dX3_overtimePay_26 rfl rfl ?_
      refine r_callV C hgX (ci := 5) ml_X3_77 im_X3_payOn se_X3_payOn rfl rfl (hb.k 0 6 rfl) (c_X3_payOn l hfl G M f hb τ hw c hc hf d (by omega)) rfl (Nat.le_of_ble_eq_true rfl) ⟨Nat.le_of_ble_eq_true rfl, Nat.le_of_ble_eq_true rfl⟩ ⟨Nat.le_of_ble_eq_true rfl, Nat.le_of_ble_eq_true rfl⟩ dX3_overtimePay_27 rfl ?_
      rintro _ _ ⟨rfl, rfl⟩
      refine V.eSt (st' := [.int (nI (pyC τ c d)), .long (lN 60)]) rfl ?_
      refine r_i2lN C (by omega) dX3_overtimePay_30 ?_
      refine r_lmulN C dX3_overtimePay_31 ?_
      refine r_ldc2 C (v := 30) kl_X3_105 dX3_overtimePay_32 ?_
      refine V.el (y := lN 30) (by decide) ?_
      refine r_aload_n C 0 dX3_overtimePay_35 rfl rfl ?_
      refine r_getI C fl_X3_60 rfl (hb.k 0 6 rfl) dX3_overtimePay_36 ?_
      refine V.ei (y := nI (un τ 5 c)) (hf5) ?_
      refine r_i2lN C (by omega) dX3_overtimePay_39 ?_
      refine r_lmulN C dX3_overtimePay_40 ?_
      refine r_callS C hgX ml_X3_107 st_X2_rounded (c_X2_rounded l hfl G M (lN (60 * (pyC τ c d))) (30 * (un τ 5 c)) (by omega)) rfl (Nat.le_of_ble_eq_true rfl) ⟨Nat.le_of_ble_eq_true rfl, Nat.le_of_ble_eq_true rfl⟩ ⟨Nat.le_of_ble_eq_true rfl, Nat.le_of_ble_eq_true rfl⟩ dX3_overtimePay_41 rfl ?_
      rintro _ _ ⟨rfl, rfl⟩
      refine V.eSt (st' := [.long (rdF (lN (60 * (pyC τ c d))) (lN (30 * (un τ 5 c))))]) rfl ?_
      refine V.el (y := lN (rN (60 * pyC τ c d) (30 * un τ 5 c))) ((rdF_rnd (by omega) (by omega)).trans (rndL_N (by omega) (by omega) (by omega))) ?_
      refine V.el (y := lN (hrC' τ c d)) (congrArg lN (by unfold hrC'; rw [if_neg (of_decide_eq_false c10)])) ?_
      exact jn44
    · skip
      have c10d := of_decide_eq_true c10
      refine r_aload_n C 0 dX3_overtimePay_13 rfl rfl ?_
      refine r_iload_n C 2 dX3_overtimePay_14 rfl rfl ?_
      refine r_callV C hgX (ci := 5) ml_X3_77 im_X3_payOn se_X3_payOn rfl rfl (hb.k 0 6 rfl) (c_X3_payOn l hfl G M f hb τ hw c hc hf d (by omega)) rfl (Nat.le_of_ble_eq_true rfl) ⟨Nat.le_of_ble_eq_true rfl, Nat.le_of_ble_eq_true rfl⟩ ⟨Nat.le_of_ble_eq_true rfl, Nat.le_of_ble_eq_true rfl⟩ dX3_overtimePay_15 rfl ?_
      rintro _ _ ⟨rfl, rfl⟩
      refine V.eSt (st' := [.int (nI (pyC τ c d))]) rfl ?_
      refine r_i2lN C (by omega) dX3_overtimePay_18 ?_
      refine r_goto C (t := 44) dX3_overtimePay_19 (by decide) ?_
      refine V.el (y := lN (hrC' τ c d)) (congrArg lN (by unfold hrC'; rw [if_pos (of_decide_eq_true c10)])) ?_
      exact jn44
  · skip
    have en : n = 0 := by omega
    subst en
    refine r_lconst C (v := lN 0) dX3_overtimePay_4 (by decide) ?_
    exact r_lret C hr (⟨by rw [Nat.mul_zero, rN_0 (by decide)], rfl⟩) (by first | exact Nat.zero_le _ | decide) (by first | exact Nat.zero_le _ | decide) dX3_overtimePay_5
theorem any_f {p : Nat → Prop} {dp : ∀ j, Decidable (p j)} {n : Nat} (h : anyN (fun j => decide (p j)) n = false) (h2 : ¬ p n) : anyN (fun j => decide (p j)) (n + 1) = false := by
  show (anyN (fun j => decide (p j)) n || decide (p n)) = false
  rw [h, decide_eq_false h2]; rfl
theorem any_t {f : Nat → Bool} {k : Nat} : ∀ {n : Nat}, k < n → f k = true → anyN f n = true
  | 0, h, _ => absurd h (Nat.not_lt_zero _)
  | n + 1, h, h2 => by
    show (anyN f n || f n) = true
    by_cases e : k = n
    · subst e; rw [h2, Bool.or_true]
    · rw [any_t (n := n) (by omega) h2]; rfl
set_option maxHeartbeats 4000000 in
set_option maxRecDepth 100000 in
theorem c_X3_isFree (l : Launch) (hfl : l.flags = flags0) (G : gW) (M : Mem) (f : Nat → Nat) (hb : Blk tbCo (mK M) (mN M) (mR M) f) (sn : Nat) (hsn : sn ≤ 40) (bg en : Nat → Nat) (hs : mI M (f 0) 10 = nI sn) (hbe : ∀ j, j < sn → mI M (f 5) j = nI (bg j) ∧ mI M (f 6) j = nI (en j) ∧ bg j < 2 ^ 30 ∧ en j < 2 ^ 30) (b e : Nat) (hb2 : b < 2 ^ 30) (he2 : e < 2 ^ 30) : CT l yX3_isFree cX3_isFree 4 (some .boolean) 0 0 0 0 G M [.ref (f 0), .int (nI b), .int (nI e)] (fun v M' => v = some (.int (bI (!anyN (fun j => decide (b < en j ∧ bg j < e)) sn))) ∧ M = M') := by
  refine CT.of hfl rfl (Nat.le_of_ble_eq_true rfl) ?_
  intro pp ee ss mm ar bw mt cd C hgX hr hini
  refine V.eLo (lo' := [(0, .ref (f 0)), (1, .int (nI b)), (2, .int (nI e))]) rfl ?_
  refine r_iconst C (v := nI 0) dX3_isFree_0 (by decide) ?_
  refine r_istore_n C (lo' := [(3, .int (nI 0)), (0, .ref (f 0)), (1, .int (nI b)), (2, .int (nI e))]) dX3_isFree_1 rfl (by decide) rfl ?_
  have lp2 : ∀ (k2 : Nat) (j : Nat) (hj : j ≤ sn) (hno : anyN (fun j => decide (b < en j ∧ bg j < e)) j = false), sn + 1 - j < k2 → V pp l ee ({ frames := 0, cells := 0, slots := 0, locals := 0 } : Room) ss mm ar bw mt cd G (MQ bw (Ke G (fun v M' => v = some (.int (bI (!anyN (fun j => decide (b < en j ∧ bg j < e)) sn))) ∧ M = M')) ar ss 0 0 (gA G)) 4 M 0 0 2 [(0, .ref (f 0)), (1, .int (nI b)), (2, .int (nI e)), (3, .int (nI j))] [] := by
    intro k2
    induction k2 with
    | zero => intro j hj hno hz2; exact absurd hz2 (Nat.not_lt_zero _)
    | succ k2 ih2 =>
      intro j hj hno hz2
      refine r_iload_n C 3 dX3_isFree_2 rfl rfl ?_
      refine r_aload_n C 0 dX3_isFree_3 rfl rfl ?_
      refine r_getI C fl_X3_84 rfl (hb.k 0 6 rfl) dX3_isFree_4 ?_
      refine V.ei (y := nI sn) (hs) ?_
      refine r_icmp_geN C (t := 38) (by omega) (by omega) dX3_isFree_7 (by decide) (fun c7 => ?_) (fun c7 => ?_)
      · skip
        have ej : j = sn := by omega
        subst ej
        refine r_iconst C (v := nI 1) dX3_isFree_38 (by decide) ?_
        exact r_zret C hr (by decide) (⟨by rw [hno]; rfl, rfl⟩) (by first | exact Nat.zero_le _ | decide) (by first | exact Nat.zero_le _ | decide) dX3_isFree_39
      · skip
        obtain ⟨hb5, hb6, hb7, hb8⟩ := hbe j (by omega)
        refine r_iload_n C 1 dX3_isFree_10 rfl rfl ?_
        refine r_aload_n C 0 dX3_isFree_11 rfl rfl ?_
        refine r_getR C (b := (f 6)) fl_X3_27 rfl (hb.k 0 6 rfl) (hb.r 0 9 6 rfl) dX3_isFree_12 ?_
        refine r_iload_n C 3 dX3_isFree_15 rfl rfl ?_
        refine r_ialoadN C (hb.k 6 20 rfl) (hb.n 6 40 rfl) (by omega) (by omega) dX3_isFree_16 ?_
        refine V.ei (y := nI (en j)) (hb6) ?_
        refine r_icmp_geN C (t := 32) (by omega) (by omega) dX3_isFree_17 (by decide) (fun c17 => ?_) (fun c17 => ?_)
        · skip
          refine r_iinc C (v := nI (j + 1)) (lo' := [(3, .int (nI (j + 1))), (0, .ref (f 0)), (1, .int (nI b)), (2, .int (nI e))]) 3 dX3_isFree_32 rfl (nI_addI j 1) (by decide) rfl ?_
          refine r_goto C (t := 2) dX3_isFree_35 (by decide) ?_
          refine V.sub [1, 2, 3, 0] (lo' := [(0, .ref (f 0)), (1, .int (nI b)), (2, .int (nI e)), (3, .int (nI (j + 1)))]) rfl ?_
          exact ih2 (j + 1) (by omega) (any_f hno (by omega)) (by omega)
        · skip
          refine r_aload_n C 0 dX3_isFree_20 rfl rfl ?_
          refine r_getR C (b := (f 5)) fl_X3_24 rfl (hb.k 0 6 rfl) (hb.r 0 8 5 rfl) dX3_isFree_21 ?_
          refine r_iload_n C 3 dX3_isFree_24 rfl rfl ?_
          refine r_ialoadN C (hb.k 5 20 rfl) (hb.n 5 40 rfl) (by omega) (by omega) dX3_isFree_25 ?_
          refine V.ei (y := nI (bg j)) (hb5) ?_
          refine r_iload_n C 2 dX3_isFree_26 rfl rfl ?_
          refine r_icmp_geN C (t := 32) (by omega) (by omega) dX3_isFree_27 (by decide) (fun c27 => ?_) (fun c27 => ?_)
          · skip
            refine r_iinc C (v := nI (j + 1)) (lo' := [(3, .int (nI (j + 1))), (0, .ref (f 0)), (1, .int (nI b)), (2, .int (nI e))]) 3 dX3_isFree_32 rfl (nI_addI j 1) (by decide) rfl ?_
            refine r_goto C (t := 2) dX3_isFree_35 (by decide) ?_
            refine V.sub [1, 2, 3, 0] (lo' := [(0, .ref (f 0)), (1, .int (nI b)), (2, .int (nI e)), (3, .int (nI (j + 1)))]) rfl ?_
            exact ih2 (j + 1) (by omega) (any_f hno (by omega)) (by omega)
          · skip
            refine r_iconst C (v := nI 0) dX3_isFree_30 (by decide) ?_
            exact r_zret C hr (by decide) (⟨by rw [any_t (n := sn) (k := j) (by omega) (decide_eq_true ⟨by omega, by omega⟩)]; rfl, rfl⟩) (by first | exact Nat.zero_le _ | decide) (by first | exact Nat.zero_le _ | decide) dX3_isFree_31
  refine V.sub [1, 2, 3, 0] (lo' := [(0, .ref (f 0)), (1, .int (nI b)), (2, .int (nI e)), (3, .int (nI 0))]) rfl ?_
  exact lp2 _ 0 (Nat.zero_le _) rfl (Nat.lt_succ_self _)

