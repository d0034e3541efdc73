theorem baseD_le {τ : Mu} (hw : WF τ) {c m : Nat} (hc : c < un τ 9 9) (hm : m < 24) : baseD τ c m ≤ 57600000000 := by
  have h1 := sumD_le hw (m := 30 * m) (n := 30) hc (by omega)
  unfold baseD
  refine rN_le (by split <;> decide) ?_
  split <;> omega
theorem baseW_le {τ : Mu} (hw : WF τ) {c m n : Nat} (hc : c < un τ 9 9) (hn : n ≤ 103) : baseW τ c m n ≤ n * 3360000000 := sumN_le fun i hi => by
  show (if lastD (0 + i) / 30 = m then overP τ c (0 + i) else 0) ≤ _
  split
  · exact overP_le hw hc (by omega)
  · omega
theorem leaveP_le {τ : Mu} (hw : WF τ) {lt : Nat → Nat} {c m k : Nat} (hc : c < un τ 9 9) (hk : k < un τ 17 17) : leaveP τ lt c m k ≤ 10000000 := by
  unfold leaveP
  split
  · refine rN_le (by decide) ?_
    have h1 := payD_le hw (d := un τ 15 k) hc (by have := (hw.ld k hk).1.2; omega)
    exact Nat.le_trans (Nat.mul_le_mul (hw.cn c hc).2 h1) (by decide)
  · exact Nat.zero_le _
theorem leaveS_le {τ : Mu} (hw : WF τ) {lt : Nat → Nat} {c m n : Nat} (hc : c < un τ 9 9) (hn : n ≤ un τ 17 17) : sumN (leaveP τ lt c m) 0 n ≤ n * 10000000 := sumN_le fun i hi => leaveP_le hw hc (by omega)
theorem baseN_le {τ : Mu} (hw : WF τ) {lt : Nat → Nat} {c m : Nat} (hc : c < un τ 9 9) (hm : m < 24) : baseN τ lt c m ≤ 500000000000 := by
  have h1 := baseD_le hw hc hm
  have h2 := baseW_le (m := m) hw hc (Nat.le_refl 103)
  have h3 := leaveS_le (lt := lt) (m := m) hw hc (Nat.le_refl _)
  have h4 := hw.nl.2
  unfold baseN
  omega
set_option maxHeartbeats 4000000 in
set_option maxRecDepth 100000 in
theorem c_X12_over (l : Launch) (hfl : l.flags = flags0) (G : gW) (M : Mem) (mb : Nat) (τ : Mu) (hm : MOK (mK M) (mN M) (mR M) mb) (ht : TE (mI M) (mL M) mb τ) (hw : WF τ) (c w : Nat) (hc : c < un τ 9 9) (hwk : w < 103) : CT l yX12_over cX12_over 7 (some .int) 0 0 0 0 G M [.ref mb, .int (nI c), .int (nI w)] (fun v M' => v = some (.int (nI (overN τ c w))) ∧ M = M') := by
  refine CT.of hfl rfl (Nat.le_of_ble_eq_true rfl) ?_
  intro pp ee ss mm ar bw mt cd C hgX hr hini
  have hnc := hw.nc.2
  have hsh := hw.sh.2
  have hnl := hw.nl.2
  have hne := hw.ne.2
  have hng := hw.ng.2
  have hop := hw.op.2
  have hnp := hw.np.2
  refine V.eLo (lo' := [(0, .ref mb), (1, .int (nI c)), (2, .int (nI w))]) rfl ?_
  refine r_iconst C (v := nI 0) dX12_over_0 (by decide) ?_
  refine r_istore_n C (lo' := [(3, .int (nI 0)), (0, .ref mb), (1, .int (nI c)), (2, .int (nI w))]) dX12_over_1 rfl (by decide) rfl ?_
  refine r_iconst C (v := nI 0) dX12_over_2 (by decide) ?_
  refine r_istore C (lo' := [(4, .int (nI 0)), (3, .int (nI 0)), (0, .ref mb), (1, .int (nI c)), (2, .int (nI w))]) dX12_over_3 (by decide) rfl ?_
  refine r_bipush C (v := nI 7) dX12_over_5 (by decide) ?_
  refine r_iload_n C 4 dX12_over_7 rfl rfl ?_
  refine r_imulN C dX12_over_8 ?_
  refine r_istore C (lo' := [(5, .int (nI (7 * w))), (4, .int (nI 0)), (3, .int (nI 0)), (0, .ref mb), (1, .int (nI c)), (2, .int (nI w))]) dX12_over_9 (by decide) rfl ?_
  have lp11 : ∀ (k11 : Nat) (n : Nat) (hn : n ≤ ovE w), ovE w + 1 - n < k11 → V pp l ee ({ frames := 0, cells := 0, slots := 0, locals := 0 } : Room) ss mm ar bw mt cd G (MQ bw (Ke G (fun v M' => v = some (.int (nI (overN τ c w))) ∧ M = M')) ar ss 0 0 (gA G)) 7 M 0 0 11 [(0, .ref mb), (1, .int (nI c)), (2, .int (nI w)), (3, .int (nI (ovD τ c w n))), (4, .int (nI (ovA τ c w n))), (5, .int (nI (7 * w + n)))] [] := by
    intro k11
    induction k11 with
    | zero => intro n hn hz11; exact absurd hz11 (Nat.not_lt_zero _)
    | succ k11 ih11 =>
      intro n hn hz11
      have he : ovE w ≤ 7 ∧ 7 * w + ovE w ≤ 720 := by unfold ovE; omega
      refine r_iload C 5 dX12_over_11 rfl ?_
      refine r_bipush C (v := nI 7) dX12_over_13 (by decide) ?_
      refine r_iload_n C 2 dX12_over_15 rfl rfl ?_
      refine r_imulN C dX12_over_16 ?_
      refine r_bipush C (v := nI 7) dX12_over_17 (by decide) ?_
      refine r_iaddN C dX12_over_19 ?_
      refine r_icmp_geN C (t := 86) (by omega) (by omega) dX12_over_20 (by decide) (fun c20 => ?_) (fun c20 => ?_)
      · skip
        have en : n = ovE w := by unfold ovE at *; omega
        have hA := ovA_le (w := w) (n := n) hw (show c < 10 by omega) (by omega)
        have hD := ovD_le (w := w) (n := n) hw (show c < 10 by omega) (by omega)
        refine r_iload C 4 dX12_over_86 rfl ?_
        refine r_iconst C (v := nI 5) dX12_over_88 (by decide) ?_
        refine r_aload_n C 0 dX12_over_89 rfl rfl ?_
        refine r_getR C (b := (ma mb 5)) fl_X12_25 rfl hm.k (hm.r 5 rfl) dX12_over_90 ?_
        refine r_iload_n C 1 dX12_over_93 rfl rfl ?_
        refine r_ialoadN C (hm.i 5 20 rfl) (hm.n 5 10 rfl) (by omega) (by omega) dX12_over_94 ?_
        refine V.ei (y := nI (un τ 5 c)) ((ht.i 5 rfl _).trans (hw.cn c (by omega)).1) ?_
        have hb1 := (hw.cn c (by omega)).2
        refine r_imulN C dX12_over_95 ?_
        refine r_icmp_leN C (t := 113) (by omega) (by omega) dX12_over_96 (by decide) (fun c96 => ?_) (fun c96 => ?_)
        · skip
          refine r_iconst C (v := nI 0) dX12_over_113 (by decide) ?_
          refine r_istore C (lo' := [(5, .int (nI 0)), (0, .ref mb), (1, .int (nI c)), (2, .int (nI w)), (3, .int (nI (ovD τ c w n))), (4, .int (nI (ovA τ c w n)))]) dX12_over_114 (by decide) rfl ?_
          refine r_iload_n C 4 dX12_over_116 rfl rfl ?_
          refine r_iload C 0 dX12_over_117 rfl ?_
          refine r_icmp_leN C (t := 126) (by omega) (by omega) dX12_over_119 (by decide) (fun c119 => ?_) (fun c119 => ?_)
          · skip
            refine r_iload C 0 dX12_over_126 rfl ?_
            exact r_iret C hr (⟨congrArg (fun z => some (Value.int (nI z))) (by unfold overN; rw [← en]; omega), rfl⟩) (by first | exact Nat.zero_le _ | decide) (by first | exact Nat.zero_le _ | decide) dX12_over_128
          · skip
            refine r_iload_n C 4 dX12_over_122 rfl rfl ?_
            refine r_goto C (t := 128) dX12_over_123 (by decide) ?_
            exact r_iret C hr (⟨congrArg (fun z => some (Value.int (nI z))) (by unfold overN; rw [← en]; omega), rfl⟩) (by first | exact Nat.zero_le _ | decide) (by first | exact Nat.zero_le _ | decide) dX12_over_128
        · skip
          refine r_iload C 4 dX12_over_99 rfl ?_
          refine r_iconst C (v := nI 5) dX12_over_101 (by decide) ?_
          refine r_aload_n C 0 dX12_over_102 rfl rfl ?_
          refine r_getR C (b := (ma mb 5)) fl_X12_25 rfl hm.k (hm.r 5 rfl) dX12_over_103 ?_
          refine r_iload_n C 1 dX12_over_106 rfl rfl ?_
          refine r_ialoadN C (hm.i 5 20 rfl) (hm.n 5 10 rfl) (by omega) (by omega) dX12_over_107 ?_
          refine V.ei (y := nI (un τ 5 c)) ((ht.i 5 rfl _).trans (hw.cn c (by omega)).1) ?_
          have hb2 := (hw.cn c (by omega)).2
          refine r_imulN C dX12_over_108 ?_
          refine r_isubN C (by omega) dX12_over_109 ?_
          refine r_goto C (t := 114) dX12_over_110 (by decide) ?_
          refine r_istore C (lo' := [(5, .int (nI ((ovA τ c w n) - (5 * (un τ 5 c))))), (0, .ref mb), (1, .int (nI c)), (2, .int (nI w)), (3, .int (nI (ovD τ c w n))), (4, .int (nI (ovA τ c w n)))]) dX12_over_114 (by decide) rfl ?_
          refine r_iload_n C 4 dX12_over_116 rfl rfl ?_
          refine r_iload C 0 dX12_over_117 rfl ?_
          refine r_icmp_leN C (t := 126) (by omega) (by omega) dX12_over_119 (by decide) (fun c119 => ?_) (fun c119 => ?_)
          · skip
            refine r_iload C 0 dX12_over_126 rfl ?_
            exact r_iret C hr (⟨congrArg (fun z => some (Value.int (nI z))) (by unfold overN; rw [← en]; omega), rfl⟩) (by first | exact Nat.zero_le _ | decide) (by first | exact Nat.zero_le _ | decide) dX12_over_128
          · skip
            refine r_iload_n C 4 dX12_over_122 rfl rfl ?_
            refine r_goto C (t := 128) dX12_over_123 (by decide) ?_
            exact r_iret C hr (⟨congrArg (fun z => some (Value.int (nI z))) (by unfold overN; rw [← en]; omega), rfl⟩) (by first | exact Nat.zero_le _ | decide) (by first | exact Nat.zero_le _ | decide) dX12_over_128
      · skip
        refine r_iload C 5 dX12_over_23 rfl ?_
        refine r_sipush C (v := nI 720) dX12_over_25 (by decide) ?_
        refine r_icmp_geN C (t := 86) (by omega) (by omega) dX12_over_28 (by decide) (fun c28 => ?_) (fun c28 => ?_)
        · skip
          have en : n = ovE w := by unfold ovE at *; omega
          have hA := ovA_le (w := w) (n := n) hw (show c < 10 by omega) (by omega)
          have hD := ovD_le (w := w) (n := n) hw (show c < 10 by omega) (by omega)
          refine r_iload C 4 dX12_over_86 rfl ?_
          refine r_iconst C (v := nI 5) dX12_over_88 (by decide) ?_
          refine r_aload_n C 0 dX12_over_89 rfl rfl ?_
          refine r_getR C (b := (ma mb 5)) fl_X12_25 rfl hm.k (hm.r 5 rfl) dX12_over_90 ?_
          refine r_iload_n C 1 dX12_over_93 rfl rfl ?_
          refine r_ialoadN C (hm.i 5 20 rfl) (hm.n 5 10 rfl) (by omega) (by omega) dX12_over_94 ?_
          refine V.ei (y := nI (un τ 5 c)) ((ht.i 5 rfl _).trans (hw.cn c (by omega)).1) ?_
          have hb4 := (hw.cn c (by omega)).2
          refine r_imulN C dX12_over_95 ?_
          refine r_icmp_leN C (t := 113) (by omega) (by omega) dX12_over_96 (by decide) (fun c96 => ?_) (fun c96 => ?_)
          · skip
            refine r_iconst C (v := nI 0) dX12_over_113 (by decide) ?_
            refine r_istore C (lo' := [(5, .int (nI 0)), (0, .ref mb), (1, .int (nI c)), (2, .int (nI w)), (3, .int (nI (ovD τ c w n))), (4, .int (nI (ovA τ c w n)))]) dX12_over_114 (by decide) rfl ?_
            refine r_iload_n C 4 dX12_over_116 rfl rfl ?_
            refine r_iload C 0 dX12_over_117 rfl ?_
            refine r_icmp_leN C (t := 126) (by omega) (by omega) dX12_over_119 (by decide) (fun c119 => ?_) (fun c119 => ?_)
            · skip
              refine r_iload C 0 dX12_over_126 rfl ?_
              exact r_iret C hr (⟨congrArg (fun z => some (Value.int (nI z))) (by unfold overN; rw [← en]; omega), rfl⟩) (by first | exact Nat.zero_le _ | decide) (by first | exact Nat.zero_le _ | decide) dX12_over_128
            · skip
              refine r_iload_n C 4 dX12_over_122 rfl rfl ?_
              refine r_goto C (t := 128) dX12_over_123 (by decide) ?_
              exact r_iret C hr (⟨congrArg (fun z => some (Value.int (nI z))) (by unfold overN; rw [← en]; omega), rfl⟩) (by first | exact Nat.zero_le _ | decide) (by first | exact Nat.zero_le _ | decide) dX12_over_128
          · skip
            refine r_iload C 4 dX12_over_99 rfl ?_
            refine r_iconst C (v := nI 5) dX12_over_101 (by decide) ?_
            refine r_aload_n C 0 dX12_over_102 rfl rfl ?_
            refine r_getR C (b := (ma mb 5)) fl_X12_25 rfl hm.k (hm.r 5 rfl) dX12_over_103 ?_
            refine r_iload_n C 1 dX12_over_106 rfl rfl ?_
            refine r_ialoadN C (hm.i 5 20 rfl) (hm.n 5 10 rfl) (by omega) (by omega) dX12_over_107 ?_
            refine V.ei (y := nI (un τ 5 c)) ((ht.i 5 rfl _).trans (hw.cn c (by omega)).1) ?_
            have hb5 := (hw.cn c (by omega)).2
            refine r_imulN C dX12_over_108 ?_
            refine r_isubN C (by omega) dX12_over_109 ?_
            refine r_goto C (t := 114) dX12_over_110 (by decide) ?_
            refine r_istore C (lo' := [(5, .int (nI ((ovA τ c w n) - (5 * (un τ 5 c))))), (0, .ref mb), (1, .int (nI c)), (2, .int (nI w)), (3, .int (nI (ovD τ c w n))), (4, .int (nI (ovA τ c w n)))]) dX12_over_114 (by decide) rfl ?_
            refine r_iload_n C 4 dX12_over_116 rfl rfl ?_
            refine r_iload C 0 dX12_over_117 rfl ?_
            refine r_icmp_leN C (t := 126) (by omega) (by omega) dX12_over_119 (by decide) (fun c119 => ?_) (fun c119 => ?_)
            · skip
              refine r_iload C 0 dX12_over_126 rfl ?_
              exact r_iret C hr (⟨congrArg (fun z => some (Value.int (nI z))) (by unfold overN; rw [← en]; omega), rfl⟩) (by first | exact Nat.zero_le _ | decide) (by first | exact Nat.zero_le _ | decide) dX12_over_128
            · skip
              refine r_iload_n C 4 dX12_over_122 rfl rfl ?_
              refine r_goto C (t := 128) dX12_over_123 (by decide) ?_
              exact r_iret C hr (⟨congrArg (fun z => some (Value.int (nI z))) (by unfold overN; rw [← en]; omega), rfl⟩) (by first | exact Nat.zero_le _ | decide) (by first | exact Nat.zero_le _ | decide) dX12_over_128
        · skip
          have h0 : 7 * w + n < 720 := by unfold ovE at hn; omega
          have hA := ovA_le (w := w) (n := n) hw (show c < 10 by omega) (by omega)
          have hD := ovD_le (w := w) (n := n) hw (show c < 10 by omega) (by omega)
          refine r_aload_n C 0 dX12_over_31 rfl rfl ?_
          refine r_getR C (b := (ma mb 8)) fl_X12_34 rfl hm.k (hm.r 8 rfl) dX12_over_32 ?_
          refine r_sipush C (v := nI 720) dX12_over_35 (by decide) ?_
          refine r_iload_n C 1 dX12_over_38 rfl rfl ?_
          refine r_imulN C dX12_over_39 ?_
          refine r_iload C 5 dX12_over_40 rfl ?_
          refine r_iaddN C dX12_over_42 ?_
          refine r_ialoadN C (hm.i 8 20 rfl) (hm.n 8 7200 rfl) (by omega) (by omega) dX12_over_43 ?_
          refine V.ei (y := nI (un τ 8 (720 * c + (7 * w + n)))) ((ht.i 8 rfl _).trans (hw.mn (720 * c + (7 * w + n)) (by omega)).1) ?_
          have hb7 := (hw.mn (720 * c + (7 * w + n)) (by omega)).2
          refine r_istore C (lo' := [(6, .int (nI (un τ 8 (720 * c + (7 * w + n))))), (0, .ref mb), (1, .int (nI c)), (2, .int (nI w)), (3, .int (nI (ovD τ c w n))), (4, .int (nI (ovA τ c w n))), (5, .int (nI (7 * w + n)))]) dX12_over_44 (by decide) rfl ?_
          refine r_iload C 5 dX12_over_46 rfl ?_
          refine r_iload C 0 dX12_over_48 rfl ?_
          refine r_iaddN C dX12_over_50 ?_
          refine r_istore C (lo' := [(4, .int (nI (ovA τ c w n + (un τ 8 (720 * c + (7 * w + n)))))), (6, .int (nI (un τ 8 (720 * c + (7 * w + n))))), (0, .ref mb), (1, .int (nI c)), (2, .int (nI w)), (3, .int (nI (ovD τ c w n))), (5, .int (nI (7 * w + n)))]) dX12_over_51 (by decide) rfl ?_
          refine r_iload_n C 5 dX12_over_53 rfl rfl ?_
          refine r_iload C 1 dX12_over_54 rfl ?_
          refine r_aload_n C 2 dX12_over_56 rfl rfl ?_
          refine r_getR C (b := (ma mb 5)) fl_X12_25 rfl hm.k (hm.r 5 rfl) dX12_over_57 ?_
          refine r_iload_n C 3 dX12_over_60 rfl rfl ?_
          refine r_ialoadN C (hm.i 5 20 rfl) (hm.n 5 10 rfl) (by omega) (by omega) dX12_over_61 ?_
          refine V.ei (y := nI (un τ 5 c)) ((ht.i 5 rfl _).trans (hw.cn c (by omega)).1) ?_
          have hb10 := (hw.cn c (by omega)).2
          refine r_icmp_leN C (t := 77) (by omega) (by omega) dX12_over_62 (by decide) (fun c62 => ?_) (fun c62 => ?_)
          · skip
            refine r_iconst C (v := nI 0) dX12_over_77 (by decide) ?_
            refine r_iaddN C dX12_over_78 ?_
            refine r_istore_n C (lo' := [(3, .int (nI (ovD τ c w n))), (4, .int (nI (ovA τ c w n + (un τ 8 (720 * c + (7 * w + n)))))), (6, .int (nI (un τ 8 (720 * c + (7 * w + n))))), (0, .ref mb), (1, .int (nI c)), (2, .int (nI w)), (5, .int (nI (7 * w + n)))]) dX12_over_79 rfl (by decide) rfl ?_
            refine r_iinc C (v := nI (7 * w + n + 1)) (lo' := [(5, .int (nI (7 * w + n + 1))), (3, .int (nI (ovD τ c w n))), (4, .int (nI (ovA τ c w n + (un τ 8 (720 * c + (7 * w + n)))))), (6, .int (nI (un τ 8 (720 * c + (7 * w + n))))), (0, .ref mb), (1, .int (nI c)), (2, .int (nI w))]) 6 dX12_over_80 rfl (nI_addI (7 * w + n) 1) (by decide) rfl ?_
            refine r_goto C (t := 11) dX12_over_83 (by decide) ?_
            have jb3 : (ovD τ c w n) = (ovD τ c w (n + 1)) := by show _ = ovD τ c w n + (un τ 8 (720 * c + (7 * w + n)) - un τ 5 c); omega
            refine V.eLo (lo' := [(5, .int (nI (7 * w + n + 1))), (3, .int (nI (ovD τ c w (n + 1)))), (4, .int (nI (ovA τ c w n + (un τ 8 (720 * c + (7 * w + n)))))), (6, .int (nI (un τ 8 (720 * c + (7 * w + n))))), (0, .ref mb), (1, .int (nI c)), (2, .int (nI w))]) (congrArg (fun z_ => ([(5, .int (nI (7 * w + n + 1))), (3, .int (nI z_)), (4, .int (nI (ovA τ c w n + (un τ 8 (720 * c + (7 * w + n)))))), (6, .int (nI (un τ 8 (720 * c + (7 * w + n))))), (0, .ref mb), (1, .int (nI c)), (2, .int (nI w))] : List (Nat × Value))) jb3) ?_
            refine V.sub [4, 5, 6, 1, 2, 0] (lo' := [(0, .ref mb), (1, .int (nI c)), (2, .int (nI w)), (3, .int (nI (ovD τ c w (n + 1)))), (4, .int (nI (ovA τ c w n + (un τ 8 (720 * c + (7 * w + n)))))), (5, .int (nI (7 * w + n + 1)))]) rfl ?_
            exact ih11 (n + 1) (by unfold ovE; omega) (by omega)
          · skip
            refine r_iload C 1 dX12_over_65 rfl ?_
            refine r_aload_n C 2 dX12_over_67 rfl rfl ?_
            refine r_getR C (b := (ma mb 5)) fl_X12_25 rfl hm.k (hm.r 5 rfl) dX12_over_68 ?_
            refine r_iload_n C 3 dX12_over_71 rfl rfl ?_
            refine r_ialoadN C (hm.i 5 20 rfl) (hm.n 5 10 rfl) (by omega) (by omega) dX12_over_72 ?_
            refine V.ei (y := nI (un τ 5 c)) ((ht.i 5 rfl _).trans (hw.cn c (by omega)).1) ?_
            have hb12 := (hw.cn c (by omega)).2
            refine r_isubN C (by omega) dX12_over_73 ?_
            refine r_goto C (t := 78) dX12_over_74 (by decide) ?_
            refine r_iaddN C dX12_over_78 ?_
            refine r_istore_n C (lo' := [(3, .int (nI (ovD τ c w n + ((un τ 8 (720 * c + (7 * w + n))) - (un τ 5 c))))), (4, .int (nI (ovA τ c w n + (un τ 8 (720 * c + (7 * w + n)))))), (6, .int (nI (un τ 8 (720 * c + (7 * w + n))))), (0, .ref mb), (1, .int (nI c)), (2, .int (nI w)), (5, .int (nI (7 * w + n)))]) dX12_over_79 rfl (by decide) rfl ?_
            refine r_iinc C (v := nI (7 * w + n + 1)) (lo' := [(5, .int (nI (7 * w + n + 1))), (3, .int (nI (ovD τ c w n + ((un τ 8 (720 * c + (7 * w + n))) - (un τ 5 c))))), (4, .int (nI (ovA τ c w n + (un τ 8 (720 * c + (7 * w + n)))))), (6, .int (nI (un τ 8 (720 * c + (7 * w + n))))), (0, .ref mb), (1, .int (nI c)), (2, .int (nI w))]) 6 dX12_over_80 rfl (nI_addI (7 * w + n) 1) (by decide) rfl ?_
            refine r_goto C (t := 11) dX12_over_83 (by decide) ?_
            have jb3 : (ovD τ c w n + ((un τ 8 (720 * c + (7 * w + n))) - (un τ 5 c))) = (ovD τ c w (n + 1)) := by show _ = ovD τ c w n + (un τ 8 (720 * c + (7 * w + n)) - un τ 5 c); omega
            refine V.eLo (lo' := [(5, .int (nI (7 * w + n + 1))), (3, .int (nI (ovD τ c w (n + 1)))), (4, .int (nI (ovA τ c w n + (un τ 8 (720 * c + (7 * w + n)))))), (6, .int (nI (un τ 8 (720 * c + (7 * w + n))))), (0, .ref mb), (1, .int (nI c)), (2, .int (nI w))]) (congrArg (fun z_ => ([(5, .int (nI (7 * w + n + 1))), (3, .int (nI z_)), (4, .int (nI (ovA τ c w n + (un τ 8 (720 * c + (7 * w + n)))))), (6, .int (nI (un τ 8 (720 * c + (7 * w + n))))), (0, .ref mb), (1, .int (nI c)), (2, .int (nI w))] : List (Nat × Value))) jb3) ?_
            refine V.sub [4, 5, 6, 1, 2, 0] (lo' := [(0, .ref mb), (1, .int (nI c)), (2, .int (nI w)), (3, .int (nI (ovD τ c w (n + 1)))), (4, .int (nI (ovA τ c w n + (un τ 8 (720 * c + (7 * w + n)))))), (5, .int (nI (7 * w + n + 1)))]) rfl ?_
            exact ih11 (n + 1) (by unfold ovE; omega) (by omega)
  refine V.sub [3, 4, 5, 2, 1, 0] (lo' := [(0, .ref mb), (1, .int (nI c)), (2, .int (nI w)), (3, .int (nI 0)), (4, .int (nI 0)), (5, .int (nI (7 * w)))]) rfl ?_
  exact lp11 _ 0 (Nat.zero_le _) (Nat.lt_succ_self _)
set_option maxHeartbeats 4000000 in
set_option maxRecDepth 100000 in
theorem c_X12_overPay (l : Launch) (hfl : l.flags = flags0) (G : gW) (M : Mem) (mb : Nat) (τ : Mu) (hm : MOK (mK M) (mN M) (mR M) mb) (ht : TE (mI M) (mL M) mb τ) (hw : WF τ) (c w : Nat) (hc : c < un τ 9 9) (hwk : w < 103) : CT l yX12_overPay cX12_overPay 6 (some .long) 2 0 0 50 G M [.ref mb, .int (nI c), .int (nI w)] (fun v M' => v = some (.long (lN (overP τ c w))) ∧ M = M') := by
  refine CT.of hfl rfl (Nat.le_of_ble_eq_true rfl) ?_
  intro pp ee ss mm ar bw mt cd C hgX hr hini
  have hnc := hw.nc.2
  have hsh := hw.sh.2
  have hnl := hw.nl.2
  have hne := hw.ne.2
  have hng := hw.ng.2
  have hop := hw.op.2
  have hnp := hw.np.2
  have hld := lastD_lt w
  have hpd := payD_le (d := lastD w) hw hc hld
  have hhn := hourN_le (d := lastD w) hw hc hld
  have hon := overN_le (w := w) hw (show c < 10 by omega) hwk
  have hcn := (hw.cn c hc).2
  have hcn0 := hw.cn0 c hc
  refine V.eLo (lo' := [(0, .ref mb), (1, .int (nI c)), (2, .int (nI w))]) rfl ?_
  have jn26 : V pp l ee ({ frames := 2, cells := 0, slots := 0, locals := 50 } : Room) ss mm ar bw mt cd G (MQ bw (Ke G (fun v M' => v = some (.long (lN (overP τ c w))) ∧ M = M')) ar ss 0 0 (gA G)) 6 M 0 0 26 [(0, .ref mb), (1, .int (nI c)), (2, .int (nI w))] [.int (nI (lastD w))] := by
    skip
    refine r_istore_n C (lo' := [(3, .int (nI (lastD w))), (0, .ref mb), (1, .int (nI c)), (2, .int (nI w))]) dX12_overPay_26 rfl (by decide) rfl ?_
    have jn71 : V pp l ee ({ frames := 2, cells := 0, slots := 0, locals := 50 } : Room) ss mm ar bw mt cd G (MQ bw (Ke G (fun v M' => v = some (.long (lN (overP τ c w))) ∧ M = M')) ar ss 0 0 (gA G)) 6 M 0 0 71 [(3, .int (nI (lastD w))), (0, .ref mb), (1, .int (nI c)), (2, .int (nI w))] [.long (lN (hourN τ c (lastD w)))] := by
      skip
      refine r_lstore C (lo' := [(4, .long (lN (hourN τ c (lastD w)))), (3, .int (nI (lastD w))), (0, .ref mb), (1, .int (nI c)), (2, .int (nI w))]) dX12_overPay_71 (by decide) rfl ?_
      refine r_aload_n C 2 dX12_overPay_73 rfl rfl ?_
      refine r_lload C 0 dX12_overPay_74 rfl ?_
      refine r_aload_n C 2 dX12_overPay_76 rfl rfl ?_
      refine r_iload_n C 3 dX12_overPay_77 rfl rfl ?_
      refine r_iload_n C 4 dX12_overPay_78 rfl rfl ?_
      refine r_callV C hgX (ci := 14) ml_X12_255 im_X12_over se_X12_over rfl rfl hm.k (c_X12_over l hfl G M mb τ hm ht hw c w (by omega) (by omega)) rfl (Nat.le_of_ble_eq_true rfl) ⟨Nat.le_of_ble_eq_true rfl, Nat.le_of_ble_eq_true rfl⟩ ⟨Nat.le_of_ble_eq_true rfl, Nat.le_of_ble_eq_true rfl⟩ dX12_overPay_79 rfl ?_
      rintro _ _ ⟨rfl, rfl⟩
      refine V.eSt (st' := [.int (nI (overN τ c w)), .long (lN (hourN τ c (lastD w))), .ref mb]) rfl ?_
      refine r_i2lN C (by omega) dX12_overPay_82 ?_
      refine r_lmulN C dX12_overPay_83 ?_
      refine r_ldc2 C (v := 120) kl_X12_264 dX12_overPay_84 ?_
      refine V.el (y := lN 120) (by decide) ?_
      refine r_callV C hgX (ci := 14) ml_X12_261 im_X12_round se_X12_round rfl rfl hm.k (c_X12_round l hfl G M mb hm (lN ((hourN τ c (lastD w)) * (overN τ c w))) (lN 120) (by rw [show (2 : Int64) = lN 2 from rfl, lN_mul]; exact lN_ne0 (by omega) (by omega))) rfl (Nat.le_of_ble_eq_true rfl) ⟨Nat.le_of_ble_eq_true rfl, Nat.le_of_ble_eq_true rfl⟩ ⟨Nat.le_of_ble_eq_true rfl, Nat.le_of_ble_eq_true rfl⟩ dX12_overPay_87 rfl ?_
      rintro _ _ ⟨rfl, rfl⟩
      refine V.eSt (st' := [.long (rndL (lN ((hourN τ c (lastD w)) * (overN τ c w))) (lN 120))]) rfl ?_
      refine V.el (y := lN (rN ((hourN τ c (lastD w)) * (overN τ c w)) 120)) (rndL_N (by have := Nat.mul_le_mul hhn hon; omega) (by omega) (by omega)) ?_
      exact r_lret C hr (⟨rfl, rfl⟩) (by first | exact Nat.zero_le _ | decide) (by first | exact Nat.zero_le _ | decide) dX12_overPay_90
    refine r_aload_n C 1 dX12_overPay_27 rfl rfl ?_
    refine r_getR C (b := (ma mb 4)) fl_X12_22 rfl hm.k (hm.r 4 rfl) dX12_overPay_28 ?_
    refine r_iload_n C 2 dX12_overPay_31 rfl rfl ?_
    refine r_ialoadN C (hm.i 4 20 rfl) (hm.n 4 10 rfl) (by omega) (by omega) dX12_overPay_32 ?_
    refine V.ei (y := nI (un τ 4 c)) ((ht.i 4 rfl _).trans (hw.ch c (by omega)).1) ?_
    have hb2 := (hw.ch c (by omega)).2
    refine r_iconst C (v := nI 1) dX12_overPay_33 (by decide) ?_
    refine r_icmp_neN C (t := 46) (by omega) (by omega) dX12_overPay_34 (by decide) (fun c34 => ?_) (fun c34 => ?_)
    · skip
      refine r_aload_n C 1 dX12_overPay_46 rfl rfl ?_
      refine r_ldc2 C (v := 60) kl_X12_221 dX12_overPay_47 ?_
      refine V.el (y := lN 60) (by decide) ?_
      refine r_aload_n C 1 dX12_overPay_50 rfl rfl ?_
      refine r_iload_n C 2 dX12_overPay_51 rfl rfl ?_
      refine r_iload_n C 0 dX12_overPay_52 rfl rfl ?_
      refine r_callV C hgX (ci := 14) ml_X12_234 im_X12_payOn se_X12_payOn rfl rfl hm.k (c_X12_payOn l hfl G M mb τ hm ht hw c (lastD w) (by omega) (by omega)) rfl (Nat.le_of_ble_eq_true rfl) ⟨Nat.le_of_ble_eq_true rfl, Nat.le_of_ble_eq_true rfl⟩ ⟨Nat.le_of_ble_eq_true rfl, Nat.le_of_ble_eq_true rfl⟩ dX12_overPay_53 rfl ?_
      rintro _ _ ⟨rfl, rfl⟩
      refine V.eSt (st' := [.long (lN (payD τ c (lastD w))), .long (lN 60), .ref mb]) rfl ?_
      refine r_lmulN C dX12_overPay_56 ?_
      refine r_ldc2 C (v := 30) kl_X12_259 dX12_overPay_57 ?_
      refine V.el (y := lN 30) (by decide) ?_
      refine r_aload_n C 1 dX12_overPay_60 rfl rfl ?_
      refine r_getR C (b := (ma mb 5)) fl_X12_25 rfl hm.k (hm.r 5 rfl) dX12_overPay_61 ?_
      refine r_iload_n C 2 dX12_overPay_64 rfl rfl ?_
      refine r_ialoadN C (hm.i 5 20 rfl) (hm.n 5 10 rfl) (by omega) (by omega) dX12_overPay_65 ?_
      refine V.ei (y := nI (un τ 5 c)) ((ht.i 5 rfl _).trans (hw.cn c (by omega)).1) ?_
      have hb3 := (hw.cn c (by omega)).2
      refine r_i2lN C (by omega) dX12_overPay_66 ?_
      refine r_lmulN C dX12_overPay_67 ?_
      refine r_callV C hgX (ci := 14) ml_X12_261 im_X12_round se_X12_round rfl rfl hm.k (c_X12_round l hfl G M mb hm (lN (60 * (payD τ c (lastD w)))) (lN (30 * (un τ 5 c))) (by rw [show (2 : Int64) = lN 2 from rfl, lN_mul]; exact lN_ne0 (by omega) (by omega))) rfl (Nat.le_of_ble_eq_true rfl) ⟨Nat.le_of_ble_eq_true rfl, Nat.le_of_ble_eq_true rfl⟩ ⟨Nat.le_of_ble_eq_true rfl, Nat.le_of_ble_eq_true rfl⟩ dX12_overPay_68 rfl ?_
      rintro _ _ ⟨rfl, rfl⟩
      refine V.eSt (st' := [.long (rndL (lN (60 * (payD τ c (lastD w)))) (lN (30 * (un τ 5 c))))]) rfl ?_
      refine V.el (y := lN (rN (60 * (payD τ c (lastD w))) (30 * (un τ 5 c)))) (rndL_N (by omega) (by omega) (by omega)) ?_
      refine V.el (y := lN (hourN τ c (lastD w))) (congrArg lN (by unfold hourN; rw [if_neg c34])) ?_
      exact jn71
    · skip
      refine r_aload_n C 1 dX12_overPay_37 rfl rfl ?_
      refine r_iload_n C 2 dX12_overPay_38 rfl rfl ?_
      refine r_iload_n C 0 dX12_overPay_39 rfl rfl ?_
      refine r_callV C hgX (ci := 14) ml_X12_234 im_X12_payOn se_X12_payOn rfl rfl hm.k (c_X12_payOn l hfl G M mb τ hm ht hw c (lastD w) (by omega) (by omega)) rfl (Nat.le_of_ble_eq_true rfl) ⟨Nat.le_of_ble_eq_true rfl, Nat.le_of_ble_eq_true rfl⟩ ⟨Nat.le_of_ble_eq_true rfl, Nat.le_of_ble_eq_true rfl⟩ dX12_overPay_40 rfl ?_
      rintro _ _ ⟨rfl, rfl⟩
      refine V.eSt (st' := [.long (lN (payD τ c (lastD w)))]) rfl ?_
      refine r_goto C (t := 71) dX12_overPay_43 (by decide) ?_
      refine V.el (y := lN (hourN τ c (lastD w))) (congrArg lN (by unfold hourN; rw [if_pos c34])) ?_
      exact jn71
  refine r_bipush C (v := nI 7) dX12_overPay_0 (by decide) ?_
  refine r_iload_n C 2 dX12_overPay_2 rfl rfl ?_
  refine r_imulN C dX12_overPay_3 ?_
  refine r_bipush C (v := nI 6) dX12_overPay_4 (by decide) ?_
  refine r_iaddN C dX12_overPay_6 ?_
  refine r_sipush C (v := nI 719) dX12_overPay_7 (by decide) ?_
  refine r_icmp_leN C (t := 19) (by omega) (by omega) dX12_overPay_10 (by decide) (fun c10 => ?_) (fun c10 => ?_)
  · skip
    refine r_bipush C (v := nI 7) dX12_overPay_19 (by decide) ?_
    refine r_iload_n C 2 dX12_overPay_21 rfl rfl ?_
    refine r_imulN C dX12_overPay_22 ?_
    refine r_bipush C (v := nI 6) dX12_overPay_23 (by decide) ?_
    refine r_iaddN C dX12_overPay_25 ?_
    refine V.ei (y := nI (lastD w)) (congrArg nI (by unfold lastD; split <;> omega)) ?_
    exact jn26
  · skip
    refine r_sipush C (v := nI 719) dX12_overPay_13 (by decide) ?_
    refine r_goto C (t := 26) dX12_overPay_16 (by decide) ?_
    refine V.ei (y := nI (lastD w)) (congrArg nI (by unfold lastD; split <;> omega)) ?_
    exact jn26
set_option maxHeartbeats 4000000 in
set_option maxRecDepth 100000 in
theorem c_X12_baseOf (l : Launch) (hfl : l.flags = flags0) (G : gW) (M : Mem) (mb : Nat) (τ : Mu) (hm : MOK (mK M) (mN M) (mR M) mb) (ht : TE (mI M) (mL M) mb τ) (hw : WF τ) (c m : Nat) (lt : Nat → Nat) (hc : c < un τ 9 9) (hmn : m < 24) (hlt : ∀ k, k < un τ 17 17 → mI M (ma mb 16) k = nI (lt k) ∧ lt k ≤ 1) : CT l yX12_baseOf cX12_baseOf 9 (some .long) 3 0 0 75 G M [.ref mb, .int (nI c), .int (nI m)] (fun v M' => v = some (.long (lN (baseN τ lt c m))) ∧ M = M') := by
  refine CT.of hfl rfl (Nat.le_of_ble_eq_true rfl) ?_
  intro pp ee ss mm ar bw mt cd C hgX hr hini
  have hnc := hw.nc.2
  have hsh := hw.sh.2
  have hnl := hw.nl.2
  have hne := hw.ne.2
  have hng := hw.ng.2
  have hop := hw.op.2
  have hnp := hw.np.2
  refine V.eLo (lo' := [(0, .ref mb), (1, .int (nI c)), (2, .int (nI m))]) rfl ?_
  refine r_lconst C (v := lN 0) dX12_baseOf_0 (by decide) ?_
  refine r_lstore_n C (lo' := [(3, .long (lN 0)), (0, .ref mb), (1, .int (nI c)), (2, .int (nI m))]) dX12_baseOf_1 rfl (by decide) rfl ?_
  refine r_bipush C (v := nI 30) dX12_baseOf_2 (by decide) ?_
  refine r_iload_n C 3 dX12_baseOf_4 rfl rfl ?_
  refine r_imulN C dX12_baseOf_5 ?_
  refine r_istore C (lo' := [(5, .int (nI (30 * m))), (3, .long (lN 0)), (0, .ref mb), (1, .int (nI c)), (2, .int (nI m))]) dX12_baseOf_6 (by decide) rfl ?_
  have lp8 : ∀ (k8 : Nat) (n : Nat) (hn : n ≤ 30), 31 - n < k8 → V pp l ee ({ frames := 3, cells := 0, slots := 0, locals := 75 } : Room) ss mm ar bw mt cd G (MQ bw (Ke G (fun v M' => v = some (.long (lN (baseN τ lt c m))) ∧ M = M')) ar ss 0 0 (gA G)) 9 M 0 0 8 [(0, .ref mb), (1, .int (nI c)), (2, .int (nI m)), (3, .long (lN (sumN (dayN τ c) (30 * m) n))), (5, .int (nI (30 * m + n)))] [] := by
    intro k8
    induction k8 with
    | zero => intro n hn hz8; exact absurd hz8 (Nat.not_lt_zero _)
    | succ k8 ih8 =>
      intro n hn hz8
      have hsd := sumD_le (m := 30 * m) (n := n) hw hc (by omega)
      refine r_iload C 4 dX12_baseOf_8 rfl ?_
      refine r_bipush C (v := nI 30) dX12_baseOf_10 (by decide) ?_
      refine r_iload_n C 2 dX12_baseOf_12 rfl rfl ?_
      refine r_imulN C dX12_baseOf_13 ?_
      refine r_bipush C (v := nI 30) dX12_baseOf_14 (by decide) ?_
      refine r_iaddN C dX12_baseOf_16 ?_
      refine r_icmp_geN C (t := 85) (by omega) (by omega) dX12_baseOf_17 (by decide) (fun c17 => ?_) (fun c17 => ?_)
      · skip
        have en : n = 30 := by omega
        refine r_aload_n C 0 dX12_baseOf_85 rfl rfl ?_
        refine r_lload_n C 3 dX12_baseOf_86 rfl rfl ?_
        have jn106 : V pp l ee ({ frames := 3, cells := 0, slots := 0, locals := 75 } : Room) ss mm ar bw mt cd G (MQ bw (Ke G (fun v M' => v = some (.long (lN (baseN τ lt c m))) ∧ M = M')) ar ss 0 0 (gA G)) 9 M 0 0 106 [(0, .ref mb), (1, .int (nI c)), (2, .int (nI m)), (3, .long (lN (sumN (dayN τ c) (30 * m) n))), (5, .int (nI (30 * m + n)))] [.long (lN (if un τ 4 c = 1 then 60 else 30)), .long (lN (sumN (dayN τ c) (30 * m) n)), .ref mb] := by
          skip
          refine r_callV C hgX (ci := 14) ml_X12_261 im_X12_round se_X12_round rfl rfl hm.k (c_X12_round l hfl G M mb hm (lN (sumN (dayN τ c) (30 * m) n)) (lN (if un τ 4 c = 1 then 60 else 30)) (by rw [show (2 : Int64) = lN 2 from rfl, lN_mul]; exact lN_ne0 (by split <;> decide) (by split <;> decide))) rfl (Nat.le_of_ble_eq_true rfl) ⟨Nat.le_of_ble_eq_true rfl, Nat.le_of_ble_eq_true rfl⟩ ⟨Nat.le_of_ble_eq_true rfl, Nat.le_of_ble_eq_true rfl⟩ dX12_baseOf_106 rfl ?_
          rintro _ _ ⟨rfl, rfl⟩
          refine V.eSt (st' := [.long (rndL (lN (sumN (dayN τ c) (30 * m) n)) (lN (if un τ 4 c = 1 then 60 else 30)))]) rfl ?_
          refine V.el (y := lN (rN (sumN (dayN τ c) (30 * m) n) (if un τ 4 c = 1 then 60 else 30))) (rndL_N (by omega) (by split <;> decide) (by split <;> decide)) ?_
          refine V.el (y := lN (baseD τ c m)) (by unfold baseD; rw [en]) ?_
          have hbd := baseD_le hw hc hmn
          refine r_lstore C (lo' := [(5, .long (lN (baseD τ c m))), (0, .ref mb), (1, .int (nI c)), (2, .int (nI m)), (3, .long (lN (sumN (dayN τ c) (30 * m) n)))]) dX12_baseOf_109 (by decide) rfl ?_
          refine r_iconst C (v := nI 0) dX12_baseOf_111 (by decide) ?_
          refine r_istore C (lo' := [(7, .int (nI 0)), (5, .long (lN (baseD τ c m))), (0, .ref mb), (1, .int (nI c)), (2, .int (nI m)), (3, .long (lN (sumN (dayN τ c) (30 * m) n)))]) dX12_baseOf_112 (by decide) rfl ?_
          have lp114 : ∀ (k114 : Nat) (k : Nat) (hk : k ≤ 103), 104 - k < k114 → V pp l ee ({ frames := 3, cells := 0, slots := 0, locals := 75 } : Room) ss mm ar bw mt cd G (MQ bw (Ke G (fun v M' => v = some (.long (lN (baseN τ lt c m))) ∧ M = M')) ar ss 0 0 (gA G)) 9 M 0 0 114 [(0, .ref mb), (1, .int (nI c)), (2, .int (nI m)), (5, .long (lN (baseD τ c m + baseW τ c m k))), (7, .int (nI k))] [] := by
            intro k114
            induction k114 with
            | zero => intro k hk hz114; exact absurd hz114 (Nat.not_lt_zero _)
            | succ k114 ih114 =>
              intro k hk hz114
              have hbw := baseW_le (m := m) (n := k) hw hc hk
              refine r_iload C 4 dX12_baseOf_114 rfl ?_
              refine r_bipush C (v := nI 103) dX12_baseOf_116 (by decide) ?_
              refine r_icmp_geN C (t := 182) (by omega) (by omega) dX12_baseOf_118 (by decide) (fun c118 => ?_) (fun c118 => ?_)
              · skip
                have ek : k = 103 := by omega
                subst ek
                have hls := 0
                refine r_iconst C (v := nI 0) dX12_baseOf_182 (by decide) ?_
                refine r_istore C (lo' := [(7, .int (nI 0)), (0, .ref mb), (1, .int (nI c)), (2, .int (nI m)), (5, .long (lN (baseD τ c m + baseW τ c m 103)))]) dX12_baseOf_183 (by decide) rfl ?_
                have lp185 : ∀ (k185 : Nat) (k : Nat) (hk : k ≤ un τ 17 17), un τ 17 17 + 1 - k < k185 → V pp l ee ({ frames := 3, cells := 0, slots := 0, locals := 75 } : Room) ss mm ar bw mt cd G (MQ bw (Ke G (fun v M' => v = some (.long (lN (baseN τ lt c m))) ∧ M = M')) ar ss 0 0 (gA G)) 9 M 0 0 185 [(0, .ref mb), (1, .int (nI c)), (2, .int (nI m)), (5, .long (lN (baseD τ c m + baseW τ c m 103 + sumN (leaveP τ lt c m) 0 k))), (7, .int (nI k))] [] := by
                  intro k185
                  induction k185 with
                  | zero => intro k hk hz185; exact absurd hz185 (Nat.not_lt_zero _)
                  | succ k185 ih185 =>
                    intro k hk hz185
                    have hls := leaveS_le (lt := lt) (m := m) (n := k) hw hc hk
                    refine r_iload C 4 dX12_baseOf_185 rfl ?_
                    refine r_aload_n C 0 dX12_baseOf_187 rfl rfl ?_
                    refine r_getI C fl_X12_269 rfl hm.k dX12_baseOf_188 ?_
                    refine V.ei (y := nI (un τ 17 17)) ((ht.s 17 rfl).trans hw.nl.1) ?_
                    refine r_icmp_geN C (t := 294) (by omega) (by omega) dX12_baseOf_191 (by decide) (fun c191 => ?_) (fun c191 => ?_)
                    · skip
                      have ek : k = un τ 17 17 := by omega
                      refine r_lload C 3 dX12_baseOf_294 rfl ?_
                      exact r_lret C hr (⟨by unfold baseN; rw [← ek], rfl⟩) (by first | exact Nat.zero_le _ | decide) (by first | exact Nat.zero_le _ | decide) dX12_baseOf_296
                    · skip
                      have hll := (hw.lc k (by omega)).2
                      have hld2 := (hw.ld k (by omega)).1.2
                      have hlt1 := (hlt k (by omega)).2
                      have jn245 : V pp l ee ({ frames := 3, cells := 0, slots := 0, locals := 75 } : Room) ss mm ar bw mt cd G (MQ bw (Ke G (fun v M' => v = some (.long (lN (baseN τ lt c m))) ∧ M = M')) ar ss 0 0 (gA G)) 9 M 0 0 245 [(0, .ref mb), (1, .int (nI c)), (2, .int (nI m)), (5, .long (lN (baseD τ c m + baseW τ c m 103 + sumN (leaveP τ lt c m) 0 k))), (7, .int (nI k))] [.int (bI (decide (un τ 14 k = c ∧ lt k = 1 ∧ un τ 15 k / 30 = m ∧ un τ 4 c = 1)))] := by
                        skip
                        refine r_istore C (lo' := [(8, .int (bI (decide (un τ 14 k = c ∧ lt k = 1 ∧ un τ 15 k / 30 = m ∧ un τ 4 c = 1)))), (0, .ref mb), (1, .int (nI c)), (2, .int (nI m)), (5, .long (lN (baseD τ c m + baseW τ c m 103 + sumN (leaveP τ lt c m) 0 k))), (7, .int (nI k))]) dX12_baseOf_245 (by decide) rfl ?_
                        refine r_lload C 4 dX12_baseOf_247 rfl ?_
                        have jn285 : V pp l ee ({ frames := 3, cells := 0, slots := 0, locals := 75 } : Room) ss mm ar bw mt cd G (MQ bw (Ke G (fun v M' => v = some (.long (lN (baseN τ lt c m))) ∧ M = M')) ar ss 0 0 (gA G)) 9 M 0 0 285 [(8, .int (bI (decide (un τ 14 k = c ∧ lt k = 1 ∧ un τ 15 k / 30 = m ∧ un τ 4 c = 1)))), (0, .ref mb), (1, .int (nI c)), (2, .int (nI m)), (5, .long (lN (baseD τ c m + baseW τ c m 103 + sumN (leaveP τ lt c m) 0 k))), (7, .int (nI k))] [.long (lN (leaveP τ lt c m k)), .long (lN (baseD τ c m + baseW τ c m 103 + sumN (leaveP τ lt c m) 0 k))] := by
                          skip
                          refine r_laddN C dX12_baseOf_285 ?_
                          refine r_lstore C (lo' := [(5, .long (lN (baseD τ c m + baseW τ c m 103 + sumN (leaveP τ lt c m) 0 k + leaveP τ lt c m k))), (8, .int (bI (decide (un τ 14 k = c ∧ lt k = 1 ∧ un τ 15 k / 30 = m ∧ un τ 4 c = 1)))), (0, .ref mb), (1, .int (nI c)), (2, .int (nI m)), (7, .int (nI k))]) dX12_baseOf_286 (by decide) rfl ?_
                          refine r_iinc C (v := nI (k + 1)) (lo' := [(7, .int (nI (k + 1))), (5, .long (lN (baseD τ c m + baseW τ c m 103 + sumN (leaveP τ lt c m) 0 k + leaveP τ lt c m k))), (8, .int (bI (decide (un τ 14 k = c ∧ lt k = 1 ∧ un τ 15 k / 30 = m ∧ un τ 4 c = 1)))), (0, .ref mb), (1, .int (nI c)), (2, .int (nI m))]) 5 dX12_baseOf_288 rfl (nI_addI k 1) (by decide) rfl ?_
                          refine r_goto C (t := 185) dX12_baseOf_291 (by decide) ?_
                          have jb5 : (baseD τ c m + baseW τ c m 103 + sumN (leaveP τ lt c m) 0 k + leaveP τ lt c m k) = (baseD τ c m + baseW τ c m 103 + sumN (leaveP τ lt c m) 0 (k + 1)) := by show _ = baseD τ c m + baseW τ c m 103 + (sumN (leaveP τ lt c m) 0 k + leaveP τ lt c m (0 + k)); rw [Nat.zero_add]; omega
                          refine V.eLo (lo' := [(7, .int (nI (k + 1))), (5, .long (lN (baseD τ c m + baseW τ c m 103 + sumN (leaveP τ lt c m) 0 (k + 1)))), (8, .int (bI (decide (un τ 14 k = c ∧ lt k = 1 ∧ un τ 15 k / 30 = m ∧ un τ 4 c = 1)))), (0, .ref mb), (1, .int (nI c)), (2, .int (nI m))]) (congrArg (fun z_ => ([(7, .int (nI (k + 1))), (5, .long (lN z_)), (8, .int (bI (decide (un τ 14 k = c ∧ lt k = 1 ∧ un τ 15 k / 30 = m ∧ un τ 4 c = 1)))), (0, .ref mb), (1, .int (nI c)), (2, .int (nI m))] : List (Nat × Value))) jb5) ?_
                          refine V.sub [3, 4, 5, 1, 0] (lo' := [(0, .ref mb), (1, .int (nI c)), (2, .int (nI m)), (5, .long (lN (baseD τ c m + baseW τ c m 103 + sumN (leaveP τ lt c m) 0 (k + 1)))), (7, .int (nI (k + 1)))]) rfl ?_
                          exact ih185 (k + 1) (by omega) (by omega)
                        refine r_iload C 0 dX12_baseOf_249 rfl ?_
                        refine r_if_eqB C (t := 284) dX12_baseOf_251 (by decide) (fun c251 => ?_) (fun c251 => ?_)
                        · skip
                          have c251d := of_decide_eq_false c251
                          refine r_lconst C (v := lN 0) dX12_baseOf_284 (by decide) ?_
                          refine V.el (y := lN (leaveP τ lt c m k)) (congrArg lN (by unfold leaveP; rw [if_neg (of_decide_eq_false c251)])) ?_
                          exact jn285
                        · skip
                          have c251d := of_decide_eq_true c251
                          have hpd := payD_le (d := un τ 15 k) hw hc (by omega)
                          have hcn := (hw.cn c hc).2
                          refine r_aload_n C 1 dX12_baseOf_254 rfl rfl ?_
                          refine r_aload_n C 1 dX12_baseOf_255 rfl rfl ?_
                          refine r_getR C (b := (ma mb 5)) fl_X12_25 rfl hm.k (hm.r 5 rfl) dX12_baseOf_256 ?_
                          refine r_iload_n C 2 dX12_baseOf_259 rfl rfl ?_
                          refine r_ialoadN C (hm.i 5 20 rfl) (hm.n 5 10 rfl) (by omega) (by omega) dX12_baseOf_260 ?_
                          refine V.ei (y := nI (un τ 5 c)) ((ht.i 5 rfl _).trans (hw.cn c (by omega)).1) ?_
                          have hb3 := (hw.cn c (by omega)).2
                          refine r_i2lN C (by omega) dX12_baseOf_261 ?_
                          refine r_aload_n C 1 dX12_baseOf_262 rfl rfl ?_
                          refine r_iload_n C 2 dX12_baseOf_263 rfl rfl ?_
                          refine r_aload_n C 1 dX12_baseOf_264 rfl rfl ?_
                          refine r_getR C (b := (ma mb 15)) fl_X12_49 rfl hm.k (hm.r 15 rfl) dX12_baseOf_265 ?_
                          refine r_iload C 5 dX12_baseOf_268 rfl ?_
                          refine r_ialoadN C (hm.i 15 20 rfl) (hm.n 15 30 rfl) (by omega) (by omega) dX12_baseOf_270 ?_
                          refine V.ei (y := nI (un τ 15 k)) ((ht.i 15 rfl _).trans ((hw.ld k (by omega)).1).1) ?_
                          have hb4 := ((hw.ld k (by omega)).1).2
                          refine r_callV C hgX (ci := 14) ml_X12_234 im_X12_payOn se_X12_payOn rfl rfl hm.k (c_X12_payOn l hfl G M mb τ hm ht hw c (un τ 15 k) (by omega) (by omega)) rfl (Nat.le_of_ble_eq_true rfl) ⟨Nat.le_of_ble_eq_true rfl, Nat.le_of_ble_eq_true rfl⟩ ⟨Nat.le_of_ble_eq_true rfl, Nat.le_of_ble_eq_true rfl⟩ dX12_baseOf_271 rfl ?_
                          rintro _ _ ⟨rfl, rfl⟩
                          refine V.eSt (st' := [.long (lN (payD τ c (un τ 15 k))), .long (lN (un τ 5 c)), .ref mb, .long (lN (baseD τ c m + baseW τ c m 103 + sumN (leaveP τ lt c m) 0 k))]) rfl ?_
                          refine r_lmulN C dX12_baseOf_274 ?_
                          refine r_ldc2 C (v := 60) kl_X12_221 dX12_baseOf_275 ?_
                          refine V.el (y := lN 60) (by decide) ?_
                          refine r_callV C hgX (ci := 14) ml_X12_261 im_X12_round se_X12_round rfl rfl hm.k (c_X12_round l hfl G M mb hm (lN ((un τ 5 c) * (payD τ c (un τ 15 k)))) (lN 60) (by rw [show (2 : Int64) = lN 2 from rfl, lN_mul]; exact lN_ne0 (by omega) (by omega))) rfl (Nat.le_of_ble_eq_true rfl) ⟨Nat.le_of_ble_eq_true rfl, Nat.le_of_ble_eq_true rfl⟩ ⟨Nat.le_of_ble_eq_true rfl, Nat.le_of_ble_eq_true rfl⟩ dX12_baseOf_278 rfl ?_
                          rintro _ _ ⟨rfl, rfl⟩
                          refine V.eSt (st' := [.long (rndL (lN ((un τ 5 c) * (payD τ c (un τ 15 k)))) (lN 60)), .long (lN (baseD τ c m + baseW τ c m 103 + sumN (leaveP τ lt c m) 0 k))]) rfl ?_
                          refine V.el (y := lN (rN ((un τ 5 c) * (payD τ c (un τ 15 k))) 60)) (rndL_N (by have := Nat.mul_le_mul hcn hpd; omega) (by omega) (by omega)) ?_
                          refine r_goto C (t := 285) dX12_baseOf_281 (by decide) ?_
                          refine V.el (y := lN (leaveP τ lt c m k)) (congrArg lN (by unfold leaveP; rw [if_pos (of_decide_eq_true c251)])) ?_
                          exact jn285
                      refine r_aload_n C 0 dX12_baseOf_194 rfl rfl ?_
                      refine r_getR C (b := (ma mb 14)) fl_X12_46 rfl hm.k (hm.r 14 rfl) dX12_baseOf_195 ?_
                      refine r_iload C 4 dX12_baseOf_198 rfl ?_
                      refine r_ialoadN C (hm.i 14 20 rfl) (hm.n 14 30 rfl) (by omega) (by omega) dX12_baseOf_200 ?_
                      refine V.ei (y := nI (un τ 14 k)) ((ht.i 14 rfl _).trans ((hw.lc k (by omega)).1).1) ?_
                      have hb5 := ((hw.lc k (by omega)).1).2
                      refine r_iload_n C 1 dX12_baseOf_201 rfl rfl ?_
                      refine r_icmp_neN C (t := 244) (by omega) (by omega) dX12_baseOf_202 (by decide) (fun c202 => ?_) (fun c202 => ?_)
                      · skip
                        refine r_iconst C (v := nI 0) dX12_baseOf_244 (by decide) ?_
                        refine V.eSt (st' := [.int (bI false)]) rfl ?_
                        refine V.ei (y := bI (decide (un τ 14 k = c ∧ lt k = 1 ∧ un τ 15 k / 30 = m ∧ un τ 4 c = 1))) (congrArg bI (by exact (decide_eq_false (fun q => c202 q.1)).symm)) ?_
                        exact jn245
                      · skip
                        refine r_aload_n C 0 dX12_baseOf_205 rfl rfl ?_
                        refine r_getR C (b := (ma mb 16)) fl_X12_52 rfl hm.k (hm.r 16 rfl) dX12_baseOf_206 ?_
                        refine r_iload C 4 dX12_baseOf_209 rfl ?_
                        refine r_ialoadN C (hm.i 16 20 rfl) (hm.n 16 30 rfl) (by omega) (by omega) dX12_baseOf_211 ?_
                        refine V.ei (y := nI (lt k)) ((hlt k (by omega)).1) ?_
                        refine r_iconst C (v := nI 1) dX12_baseOf_212 (by decide) ?_
                        refine r_icmp_neN C (t := 244) (by omega) (by omega) dX12_baseOf_213 (by decide) (fun c213 => ?_) (fun c213 => ?_)
                        · skip
                          refine r_iconst C (v := nI 0) dX12_baseOf_244 (by decide) ?_
                          refine V.eSt (st' := [.int (bI false)]) rfl ?_
                          refine V.ei (y := bI (decide (un τ 14 k = c ∧ lt k = 1 ∧ un τ 15 k / 30 = m ∧ un τ 4 c = 1))) (congrArg bI (by exact (decide_eq_false (fun q => c213 q.2.1)).symm)) ?_
                          exact jn245
                        · skip
                          refine r_aload_n C 0 dX12_baseOf_216 rfl rfl ?_
                          refine r_getR C (b := (ma mb 15)) fl_X12_49 rfl hm.k (hm.r 15 rfl) dX12_baseOf_217 ?_
                          refine r_iload C 4 dX12_baseOf_220 rfl ?_
                          refine r_ialoadN C (hm.i 15 20 rfl) (hm.n 15 30 rfl) (by omega) (by omega) dX12_baseOf_222 ?_
                          refine V.ei (y := nI (un τ 15 k)) ((ht.i 15 rfl _).trans ((hw.ld k (by omega)).1).1) ?_
                          have hb6 := ((hw.ld k (by omega)).1).2
                          refine r_bipush C (v := nI 30) dX12_baseOf_223 (by decide) ?_
                          refine r_idivN C (by omega) (by omega) (by omega) dX12_baseOf_225 ?_
                          refine r_iload_n C 2 dX12_baseOf_226 rfl rfl ?_
                          refine r_icmp_neN C (t := 244) (by omega) (by omega) dX12_baseOf_227 (by decide) (fun c227 => ?_) (fun c227 => ?_)
                          · skip
                            refine r_iconst C (v := nI 0) dX12_baseOf_244 (by decide) ?_
                            refine V.eSt (st' := [.int (bI false)]) rfl ?_
                            refine V.ei (y := bI (decide (un τ 14 k = c ∧ lt k = 1 ∧ un τ 15 k / 30 = m ∧ un τ 4 c = 1))) (congrArg bI (by exact (decide_eq_false (fun q => c227 q.2.2.1)).symm)) ?_
                            exact jn245
                          · skip
                            refine r_aload_n C 0 dX12_baseOf_230 rfl rfl ?_
                            refine r_getR C (b := (ma mb 4)) fl_X12_22 rfl hm.k (hm.r 4 rfl) dX12_baseOf_231 ?_
                            refine r_iload_n C 1 dX12_baseOf_234 rfl rfl ?_
                            refine r_ialoadN C (hm.i 4 20 rfl) (hm.n 4 10 rfl) (by omega) (by omega) dX12_baseOf_235 ?_
                            refine V.ei (y := nI (un τ 4 c)) ((ht.i 4 rfl _).trans (hw.ch c (by omega)).1) ?_
                            have hb7 := (hw.ch c (by omega)).2
                            refine r_iconst C (v := nI 1) dX12_baseOf_236 (by decide) ?_
                            refine r_icmp_neN C (t := 244) (by omega) (by omega) dX12_baseOf_237 (by decide) (fun c237 => ?_) (fun c237 => ?_)
                            · skip
                              refine r_iconst C (v := nI 0) dX12_baseOf_244 (by decide) ?_
                              refine V.eSt (st' := [.int (bI false)]) rfl ?_
                              refine V.ei (y := bI (decide (un τ 14 k = c ∧ lt k = 1 ∧ un τ 15 k / 30 = m ∧ un τ 4 c = 1))) (congrArg bI (by exact (decide_eq_false (fun q => c237 q.2.2.2)).symm)) ?_
                              exact jn245
                            · skip
                              refine r_iconst C (v := nI 1) dX12_baseOf_240 (by decide) ?_
                              refine r_goto C (t := 245) dX12_baseOf_241 (by decide) ?_
                              refine V.eSt (st' := [.int (bI true)]) rfl ?_
                              refine V.ei (y := bI (decide (un τ 14 k = c ∧ lt k = 1 ∧ un τ 15 k / 30 = m ∧ un τ 4 c = 1))) (congrArg bI (by exact (decide_eq_true ⟨c202, c213, c227, c237⟩).symm)) ?_
                              exact jn245
                refine V.sub [1, 2, 3, 4, 0] (lo' := [(0, .ref mb), (1, .int (nI c)), (2, .int (nI m)), (5, .long (lN (baseD τ c m + baseW τ c m 103))), (7, .int (nI 0))]) rfl ?_
                exact lp185 _ 0 (Nat.zero_le _) (Nat.lt_succ_self _)
              · skip
                have jn149 : V pp l ee ({ frames := 3, cells := 0, slots := 0, locals := 75 } : Room) ss mm ar bw mt cd G (MQ bw (Ke G (fun v M' => v = some (.long (lN (baseN τ lt c m))) ∧ M = M')) ar ss 0 0 (gA G)) 9 M 0 0 149 [(0, .ref mb), (1, .int (nI c)), (2, .int (nI m)), (5, .long (lN (baseD τ c m + baseW τ c m k))), (7, .int (nI k))] [.int (nI (lastD k))] := by
                  skip
                  have hld := lastD_lt k
                  refine r_istore C (lo' := [(8, .int (nI (lastD k))), (0, .ref mb), (1, .int (nI c)), (2, .int (nI m)), (5, .long (lN (baseD τ c m + baseW τ c m k))), (7, .int (nI k))]) dX12_baseOf_149 (by decide) rfl ?_
                  refine r_lload C 4 dX12_baseOf_151 rfl ?_
                  have jn173 : V pp l ee ({ frames := 3, cells := 0, slots := 0, locals := 75 } : Room) ss mm ar bw mt cd G (MQ bw (Ke G (fun v M' => v = some (.long (lN (baseN τ lt c m))) ∧ M = M')) ar ss 0 0 (gA G)) 9 M 0 0 173 [(8, .int (nI (lastD k))), (0, .ref mb), (1, .int (nI c)), (2, .int (nI m)), (5, .long (lN (baseD τ c m + baseW τ c m k))), (7, .int (nI k))] [.long (lN (if lastD k / 30 = m then overP τ c k else 0)), .long (lN (baseD τ c m + baseW τ c m k))] := by
                    skip
                    refine r_laddN C dX12_baseOf_173 ?_
                    refine r_lstore C (lo' := [(5, .long (lN (baseD τ c m + baseW τ c m k + (if lastD k / 30 = m then overP τ c k else 0)))), (8, .int (nI (lastD k))), (0, .ref mb), (1, .int (nI c)), (2, .int (nI m)), (7, .int (nI k))]) dX12_baseOf_174 (by decide) rfl ?_
                    refine r_iinc C (v := nI (k + 1)) (lo' := [(7, .int (nI (k + 1))), (5, .long (lN (baseD τ c m + baseW τ c m k + (if lastD k / 30 = m then overP τ c k else 0)))), (8, .int (nI (lastD k))), (0, .ref mb), (1, .int (nI c)), (2, .int (nI m))]) 5 dX12_baseOf_176 rfl (nI_addI k 1) (by decide) rfl ?_
                    refine r_goto C (t := 114) dX12_baseOf_179 (by decide) ?_
                    have jb5 : (baseD τ c m + baseW τ c m k + (if lastD k / 30 = m then overP τ c k else 0)) = (baseD τ c m + baseW τ c m (k + 1)) := by show _ = baseD τ c m + (baseW τ c m k + (if lastD (0 + k) / 30 = m then overP τ c (0 + k) else 0)); rw [Nat.zero_add]; omega
                    refine V.eLo (lo' := [(7, .int (nI (k + 1))), (5, .long (lN (baseD τ c m + baseW τ c m (k + 1)))), (8, .int (nI (lastD k))), (0, .ref mb), (1, .int (nI c)), (2, .int (nI m))]) (congrArg (fun z_ => ([(7, .int (nI (k + 1))), (5, .long (lN z_)), (8, .int (nI (lastD k))), (0, .ref mb), (1, .int (nI c)), (2, .int (nI m))] : List (Nat × Value))) jb5) ?_
                    refine V.sub [3, 4, 5, 1, 0] (lo' := [(0, .ref mb), (1, .int (nI c)), (2, .int (nI m)), (5, .long (lN (baseD τ c m + baseW τ c m (k + 1)))), (7, .int (nI (k + 1)))]) rfl ?_
                    exact ih114 (k + 1) (by omega) (by omega)
                  refine r_iload C 0 dX12_baseOf_153 rfl ?_
                  refine r_bipush C (v := nI 30) dX12_baseOf_155 (by decide) ?_
                  refine r_idivN C (by omega) (by omega) (by omega) dX12_baseOf_157 ?_
                  refine r_iload_n C 3 dX12_baseOf_158 rfl rfl ?_
                  refine r_icmp_neN C (t := 172) (by omega) (by omega) dX12_baseOf_159 (by decide) (fun c159 => ?_) (fun c159 => ?_)
                  · skip
                    refine r_lconst C (v := lN 0) dX12_baseOf_172 (by decide) ?_
                    refine V.el (y := lN (if lastD k / 30 = m then overP τ c k else 0)) (congrArg lN (by rw [if_neg c159])) ?_
                    exact jn173
                  · skip
                    refine r_aload_n C 1 dX12_baseOf_162 rfl rfl ?_
                    refine r_iload_n C 2 dX12_baseOf_163 rfl rfl ?_
                    refine r_iload C 5 dX12_baseOf_164 rfl ?_
                    refine r_callV C hgX (ci := 14) ml_X12_266 im_X12_overPay se_X12_overPay rfl rfl hm.k (c_X12_overPay l hfl G M mb τ hm ht hw c k (by omega) (by omega)) rfl (Nat.le_of_ble_eq_true rfl) ⟨Nat.le_of_ble_eq_true rfl, Nat.le_of_ble_eq_true rfl⟩ ⟨Nat.le_of_ble_eq_true rfl, Nat.le_of_ble_eq_true rfl⟩ dX12_baseOf_166 rfl ?_
                    rintro _ _ ⟨rfl, rfl⟩
                    refine V.eSt (st' := [.long (lN (overP τ c k)), .long (lN (baseD τ c m + baseW τ c m k))]) rfl ?_
                    refine r_goto C (t := 173) dX12_baseOf_169 (by decide) ?_
                    refine V.el (y := lN (if lastD k / 30 = m then overP τ c k else 0)) (congrArg lN (by rw [if_pos c159])) ?_
                    exact jn173
                refine r_bipush C (v := nI 7) dX12_baseOf_121 (by decide) ?_
                refine r_iload C 4 dX12_baseOf_123 rfl ?_
                refine r_imulN C dX12_baseOf_125 ?_
                refine r_bipush C (v := nI 6) dX12_baseOf_126 (by decide) ?_
                refine r_iaddN C dX12_baseOf_128 ?_
                refine r_sipush C (v := nI 719) dX12_baseOf_129 (by decide) ?_
                refine r_icmp_leN C (t := 141) (by omega) (by omega) dX12_baseOf_132 (by decide) (fun c132 => ?_) (fun c132 => ?_)
                · skip
                  refine r_bipush C (v := nI 7) dX12_baseOf_141 (by decide) ?_
                  refine r_iload C 4 dX12_baseOf_143 rfl ?_
                  refine r_imulN C dX12_baseOf_145 ?_
                  refine r_bipush C (v := nI 6) dX12_baseOf_146 (by decide) ?_
                  refine r_iaddN C dX12_baseOf_148 ?_
                  refine V.ei (y := nI (lastD k)) (congrArg nI (by unfold lastD; split <;> omega)) ?_
                  exact jn149
                · skip
                  refine r_sipush C (v := nI 719) dX12_baseOf_135 (by decide) ?_
                  refine r_goto C (t := 149) dX12_baseOf_138 (by decide) ?_
                  refine V.ei (y := nI (lastD k)) (congrArg nI (by unfold lastD; split <;> omega)) ?_
                  exact jn149
          refine V.sub [2, 3, 4, 1, 0] (lo' := [(0, .ref mb), (1, .int (nI c)), (2, .int (nI m)), (5, .long (lN (baseD τ c m))), (7, .int (nI 0))]) rfl ?_
          exact lp114 _ 0 (Nat.zero_le _) (Nat.lt_succ_self _)
        refine r_aload_n C 0 dX12_baseOf_87 rfl rfl ?_
        refine r_getR C (b := (ma mb 4)) fl_X12_22 rfl hm.k (hm.r 4 rfl) dX12_baseOf_88 ?_
        refine r_iload_n C 1 dX12_baseOf_91 rfl rfl ?_
        refine r_ialoadN C (hm.i 4 20 rfl) (hm.n 4 10 rfl) (by omega) (by omega) dX12_baseOf_92 ?_
        refine V.ei (y := nI (un τ 4 c)) ((ht.i 4 rfl _).trans (hw.ch c (by omega)).1) ?_
        have hb10 := (hw.ch c (by omega)).2
        refine r_iconst C (v := nI 1) dX12_baseOf_93 (by decide) ?_
        refine r_icmp_neN C (t := 103) (by omega) (by omega) dX12_baseOf_94 (by decide) (fun c94 => ?_) (fun c94 => ?_)
        · skip
          refine r_ldc2 C (v := 30) kl_X12_259 dX12_baseOf_103 ?_
          refine V.el (y := lN 30) (by decide) ?_
          refine V.el (y := lN (if un τ 4 c = 1 then 60 else 30)) (congrArg lN (by rw [if_neg c94])) ?_
          exact jn106
        · skip
          refine r_ldc2 C (v := 60) kl_X12_221 dX12_baseOf_97 ?_
          refine V.el (y := lN 60) (by decide) ?_
          refine r_goto C (t := 106) dX12_baseOf_100 (by decide) ?_
          refine V.el (y := lN (if un τ 4 c = 1 then 60 else 30)) (congrArg lN (by rw [if_pos c94])) ?_
          exact jn106
      · skip
        have hpd := payD_le (d := 30 * m + n) hw hc (by omega)
        refine r_lload_n C 3 dX12_baseOf_20 rfl rfl ?_
        have jn77 : V pp l ee ({ frames := 3, cells := 0, slots := 0, locals := 75 } : Room) ss mm ar bw mt cd G (MQ bw (Ke G (fun v M' => v = some (.long (lN (baseN τ lt c m))) ∧ M = M')) ar ss 0 0 (gA G)) 9 M 0 0 77 [(0, .ref mb), (1, .int (nI c)), (2, .int (nI m)), (3, .long (lN (sumN (dayN τ c) (30 * m) n))), (5, .int (nI (30 * m + n)))] [.long (lN (dayN τ c (30 * m + n))), .long (lN (sumN (dayN τ c) (30 * m) n))] := by
          skip
          refine r_laddN C dX12_baseOf_77 ?_
          refine r_lstore_n C (lo' := [(3, .long (lN (sumN (dayN τ c) (30 * m) n + (dayN τ c (30 * m + n))))), (0, .ref mb), (1, .int (nI c)), (2, .int (nI m)), (5, .int (nI (30 * m + n)))]) dX12_baseOf_78 rfl (by decide) rfl ?_
          refine r_iinc C (v := nI (30 * m + n + 1)) (lo' := [(5, .int (nI (30 * m + n + 1))), (3, .long (lN (sumN (dayN τ c) (30 * m) n + (dayN τ c (30 * m + n))))), (0, .ref mb), (1, .int (nI c)), (2, .int (nI m))]) 4 dX12_baseOf_79 rfl (nI_addI (30 * m + n) 1) (by decide) rfl ?_
          refine r_goto C (t := 8) dX12_baseOf_82 (by decide) ?_
          refine V.sub [2, 3, 4, 1, 0] (lo' := [(0, .ref mb), (1, .int (nI c)), (2, .int (nI m)), (3, .long (lN (sumN (dayN τ c) (30 * m) n + (dayN τ c (30 * m + n))))), (5, .int (nI (30 * m + n + 1)))]) rfl ?_
          exact ih8 (n + 1) (by omega) (by omega)
        refine r_aload_n C 0 dX12_baseOf_21 rfl rfl ?_
        refine r_getR C (b := (ma mb 4)) fl_X12_22 rfl hm.k (hm.r 4 rfl) dX12_baseOf_22 ?_
        refine r_iload_n C 1 dX12_baseOf_25 rfl rfl ?_
        refine r_ialoadN C (hm.i 4 20 rfl) (hm.n 4 10 rfl) (by omega) (by omega) dX12_baseOf_26 ?_
        refine V.ei (y := nI (un τ 4 c)) ((ht.i 4 rfl _).trans (hw.ch c (by omega)).1) ?_
        have hb12 := (hw.ch c (by omega)).2
        refine r_iconst C (v := nI 1) dX12_baseOf_27 (by decide) ?_
        refine r_icmp_neN C (t := 56) (by omega) (by omega) dX12_baseOf_28 (by decide) (fun c28 => ?_) (fun c28 => ?_)
        · skip
          refine r_aload_n C 0 dX12_baseOf_56 rfl rfl ?_
          refine r_iload_n C 1 dX12_baseOf_57 rfl rfl ?_
          refine r_iload C 4 dX12_baseOf_58 rfl ?_
          refine r_callV C hgX (ci := 14) ml_X12_245 im_X12_isOf se_X12_isOf rfl rfl hm.k (c_X12_isOf l hfl G M mb τ hm ht hw (nI c) (nI (30 * m + n))) rfl (Nat.le_of_ble_eq_true rfl) ⟨Nat.le_of_ble_eq_true rfl, Nat.le_of_ble_eq_true rfl⟩ ⟨Nat.le_of_ble_eq_true rfl, Nat.le_of_ble_eq_true rfl⟩ dX12_baseOf_60 rfl ?_
          rintro _ _ ⟨rfl, rfl⟩
          refine V.eSt (st' := [.int (bI (isOfB τ (nI c) (nI (30 * m + n)))), .long (lN (sumN (dayN τ c) (30 * m) n))]) rfl ?_
          refine r_if_eqB C (t := 76) dX12_baseOf_63 (by decide) (fun c63 => ?_) (fun c63 => ?_)
          · skip
            refine r_lconst C (v := lN 0) dX12_baseOf_76 (by decide) ?_
            refine V.el (y := lN (dayN τ c (30 * m + n))) (congrArg lN (by unfold dayN; rw [if_neg c28, if_neg (by rw [← isOfB_N hc (by omega) (by omega)]; simp [c63])])) ?_
            exact jn77
          · skip
            refine r_aload_n C 0 dX12_baseOf_66 rfl rfl ?_
            refine r_iload_n C 1 dX12_baseOf_67 rfl rfl ?_
            refine r_iload C 4 dX12_baseOf_68 rfl ?_
            refine r_callV C hgX (ci := 14) ml_X12_234 im_X12_payOn se_X12_payOn rfl rfl hm.k (c_X12_payOn l hfl G M mb τ hm ht hw c (30 * m + n) (by omega) (by omega)) rfl (Nat.le_of_ble_eq_true rfl) ⟨Nat.le_of_ble_eq_true rfl, Nat.le_of_ble_eq_true rfl⟩ ⟨Nat.le_of_ble_eq_true rfl, Nat.le_of_ble_eq_true rfl⟩ dX12_baseOf_70 rfl ?_
            rintro _ _ ⟨rfl, rfl⟩
            refine V.eSt (st' := [.long (lN (payD τ c (30 * m + n))), .long (lN (sumN (dayN τ c) (30 * m) n))]) rfl ?_
            refine r_goto C (t := 77) dX12_baseOf_73 (by decide) ?_
            refine V.el (y := lN (dayN τ c (30 * m + n))) (congrArg lN (by unfold dayN; rw [if_neg c28, if_pos (by rw [← isOfB_N hc (by omega) (by omega)]; exact c63)])) ?_
            exact jn77
        · skip
          refine r_aload_n C 0 dX12_baseOf_31 rfl rfl ?_
          refine r_getR C (b := (ma mb 8)) fl_X12_34 rfl hm.k (hm.r 8 rfl) dX12_baseOf_32 ?_
          refine r_sipush C (v := nI 720) dX12_baseOf_35 (by decide) ?_
          refine r_iload_n C 1 dX12_baseOf_38 rfl rfl ?_
          refine r_imulN C dX12_baseOf_39 ?_
          refine r_iload C 4 dX12_baseOf_40 rfl ?_
          refine r_iaddN C dX12_baseOf_42 ?_
          refine r_ialoadN C (hm.i 8 20 rfl) (hm.n 8 7200 rfl) (by omega) (by omega) dX12_baseOf_43 ?_
          refine V.ei (y := nI (un τ 8 (720 * c + (30 * m + n)))) ((ht.i 8 rfl _).trans (hw.mn (720 * c + (30 * m + n)) (by omega)).1) ?_
          have hb13 := (hw.mn (720 * c + (30 * m + n)) (by omega)).2
          refine r_i2lN C (by omega) dX12_baseOf_44 ?_
          refine r_aload_n C 0 dX12_baseOf_45 rfl rfl ?_
          refine r_iload_n C 1 dX12_baseOf_46 rfl rfl ?_
          refine r_iload C 4 dX12_baseOf_47 rfl ?_
          refine r_callV C hgX (ci := 14) ml_X12_234 im_X12_payOn se_X12_payOn rfl rfl hm.k (c_X12_payOn l hfl G M mb τ hm ht hw c (30 * m + n) (by omega) (by omega)) rfl (Nat.le_of_ble_eq_true rfl) ⟨Nat.le_of_ble_eq_true rfl, Nat.le_of_ble_eq_true rfl⟩ ⟨Nat.le_of_ble_eq_true rfl, Nat.le_of_ble_eq_true rfl⟩ dX12_baseOf_49 rfl ?_
          rintro _ _ ⟨rfl, rfl⟩
          refine V.eSt (st' := [.long (lN (payD τ c (30 * m + n))), .long (lN (un τ 8 (720 * c + (30 * m + n)))), .long (lN (sumN (dayN τ c) (30 * m) n))]) rfl ?_
          refine r_lmulN C dX12_baseOf_52 ?_
          refine r_goto C (t := 77) dX12_baseOf_53 (by decide) ?_
          refine V.el (y := lN (dayN τ c (30 * m + n))) (congrArg lN (by unfold dayN; rw [if_pos c28])) ?_
          exact jn77
  refine V.sub [2, 3, 4, 1, 0] (lo' := [(0, .ref mb), (1, .int (nI c)), (2, .int (nI m)), (3, .long (lN 0)), (5, .int (nI (30 * m)))]) rfl ?_
  exact lp8 _ 0 (Nat.zero_le _) (Nat.lt_succ_self _)
