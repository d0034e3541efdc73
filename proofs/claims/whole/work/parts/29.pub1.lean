set_option maxHeartbeats 4000000 in
set_option maxRecDepth 100000 in
theorem c_X12_slip (l : Launch) (hfl : l.flags = flags0) (G : gW) (M : Mem) (mb : Nat) (τ : Mu) (hm : MOK (mK M) (mN M) (mR M) mb) (ht : TE (mI M) (mL M) mb τ) (hw : WF τ) (htb : TEb (mI M) (mL M) mb τ) (hlb : LTB M mb) (x y z : Int32) : CT l yX12_slip cX12_slip 4 (some .long) 6 0 0 164 G M [.ref mb, .int x, .int y, .int z] (fun v M' => PP mb M τ (cd2 (rng x 6 && rng y 24) (inB z (lN 0) (lN 7))) (τ) (some (.long (slL τ x.toNatClampNeg y.toNatClampNeg z.toNatClampNeg))) v M') := by
  refine CT.of hfl rfl (Nat.le_of_ble_eq_true rfl) ?_
  intro pp ee ss mm ar bw mt cd C hgX hr hini
  have hnc := hw.nc.2
  have hsh := hw.sh.2
  have hnl := hw.nl.2
  have hne := hw.ne.2
  have hng := hw.ng.2
  have hop := hw.op.2
  have hnp := hw.np.2
  have ht0 := ht
  have hm0 := hm
  have htb0 := htb
  have hfo := fOut.rf [67, 16, 21, 28, 29, 55, 56, 57, 58, 59, 60, 61, 62, 63, 64, 65, 66] mb M
  refine V.eLo (lo' := [(0, .ref mb), (1, .int x), (2, .int y), (3, .int z)]) rfl ?_
  refine r_aload_n C 0 dX12_slip_0 rfl rfl ?_
  have jn39 : V pp l ee ({ frames := 6, cells := 0, slots := 0, locals := 164 } : Room) ss mm ar bw mt cd G (MQ bw (Ke G (fun v M' => PP mb M τ (cd2 (rng x 6 && rng y 24) (inB z (lN 0) (lN 7))) (τ) (some (.long (slL τ x.toNatClampNeg y.toNatClampNeg z.toNatClampNeg))) v M')) ar ss 0 0 (gA G)) 4 M 0 0 39 [(0, .ref mb), (1, .int x), (2, .int y), (3, .int z)] [.int (nI (cd2 (rng x 6 && rng y 24) (inB z (lN 0) (lN 7)))), .ref mb] := by
    skip
    refine r_callV C hgX (ci := 14) ml_X12_227 im_X12_holds se_X12_holds rfl rfl hm.k (c_X12_holds l hfl G M mb hm (nI (cd2 (rng x 6 && rng y 24) (inB z (lN 0) (lN 7))))) rfl (Nat.le_of_ble_eq_true rfl) ⟨Nat.le_of_ble_eq_true rfl, Nat.le_of_ble_eq_true rfl⟩ ⟨Nat.le_of_ble_eq_true rfl, Nat.le_of_ble_eq_true rfl⟩ dX12_slip_39 rfl ?_
    rintro _ _ ⟨rfl, rfl⟩
    refine V.eSt (st' := [.int (bI (decide (0 < nI (cd2 (rng x 6 && rng y 24) (inB z (lN 0) (lN 7))))))]) rfl ?_
    refine V.ei (y := bI (decide ((cd2 (rng x 6 && rng y 24) (inB z (lN 0) (lN 7))) ≠ 0))) (congrArg bI (hold_d (cd2_le _ _))) ?_
    have hfo := hfo.set0 67 (nI (cd2 (rng x 6 && rng y 24) (inB z (lN 0) (lN 7)))) rfl
    have ht := ht.ws 67 (nI (cd2 (rng x 6 && rng y 24) (inB z (lN 0) (lN 7)))) rfl rfl
    have htb := ((fOut.rf [67] mb _).set0 67 (nI (cd2 (rng x 6 && rng y 24) (inB z (lN 0) (lN 7)))) rfl).tb rfl htb
    have h67 : mI (wI M mb 67 (nI (cd2 (rng x 6 && rng y 24) (inB z (lN 0) (lN 7))))) mb 67 = nI (cd2 (rng x 6 && rng y 24) (inB z (lN 0) (lN 7))) := up2_same _ _ _ _
    have hlb : LTB (wI M mb 67 (nI (cd2 (rng x 6 && rng y 24) (inB z (lN 0) (lN 7))))) mb := hlb.ws 67 _
    refine r_if_eqB C (t := 49) dX12_slip_42 (by decide) (fun c42 => ?_) (fun c42 => ?_)
    · skip
      have c42d := of_decide_eq_false c42
      have hC : (cd2 (rng x 6 && rng y 24) (inB z (lN 0) (lN 7))) = 0 := by have := c42d; omega
      obtain ⟨h1, h2⟩ := cd2_0 hC
      obtain ⟨hx, hy⟩ := Bool.and_eq_true_iff.mp h1
      obtain ⟨c, hc, e_x⟩ := rng_t hx
      obtain ⟨d, hd, e_y⟩ := rng_t hy
      obtain ⟨w, hw0, hw7, e_z⟩ := inB_N (by decide) (by decide) h2
      refine V.eLo (lo' := [(0, .ref mb), (1, .int (nI c)), (2, .int (nI d)), (3, .int (nI w))]) (by rw [e_x, e_y, e_z]) ?_
      refine r_aload_n C 0 dX12_slip_49 rfl rfl ?_
      refine r_iload_n C 1 dX12_slip_50 rfl rfl ?_
      refine r_callV C hgX (ci := 14) ml_X12_389 im_X12_slips se_X12_slips rfl rfl (show mK (wI M mb 67 (nI (cd2 (rng x 6 && rng y 24) (inB z (lN 0) (lN 7))))) mb = 14 + 1 from hm.k) (c_X12_slips l hfl G (wI M mb 67 (nI (cd2 (rng x 6 && rng y 24) (inB z (lN 0) (lN 7))))) mb τ hm ht hw c (by omega) (hlb)) rfl (Nat.le_of_ble_eq_true rfl) ⟨Nat.le_of_ble_eq_true rfl, Nat.le_of_ble_eq_true rfl⟩ ⟨Nat.le_of_ble_eq_true rfl, Nat.le_of_ble_eq_true rfl⟩ dX12_slip_51 rfl ?_
      rintro _ My1 ⟨rfl, hfo1, hbk1, hlb1⟩
      have hm := hfo1.ok hm
      have ht := hfo1.te rfl ht
      have htb := hfo1.tb rfl htb
      have h67 := (hfo1.s 67 rfl).trans h67
      have hfo := hfo.tr (hfo1.mono rfl)
      have hlb := hlb1
      have hbk := hbk1
      have jn136 : V pp l ee ({ frames := 6, cells := 0, slots := 0, locals := 164 } : Room) ss mm ar bw mt cd G (MQ bw (Ke G (fun v M' => PP mb M τ (cd2 (rng x 6 && rng y 24) (inB z (lN 0) (lN 7))) (τ) (some (.long (slL τ x.toNatClampNeg y.toNatClampNeg z.toNatClampNeg))) v M')) ar ss 0 0 (gA G)) 4 My1 0 0 136 [(0, .ref mb), (1, .int (nI c)), (2, .int (nI d)), (3, .int (nI w))] [.long (slL τ c d w)] := by
        skip
        exact r_lret C hr (⟨h67, hfo.mo, hlb, fun q => absurd hC q, fun _ => ⟨by rw [e_x, e_y, e_z, nI_clamp (n := c) (by omega), nI_clamp (n := d) (by omega), nI_clamp (n := w) (by omega)], ht, htb.cg rfl rfl (fun _ => ⟨rfl, rfl⟩) (fun _ => ⟨rfl, rfl⟩) (fun _ => ⟨rfl, rfl⟩) (fun _ => ⟨rfl, rfl⟩) (fun _ => ⟨rfl, rfl⟩) (fun _ => ⟨rfl, rfl⟩) (fun _ => ⟨rfl, rfl⟩) ⟩, by first | exact KD.i | exact KD.l | exact KD.n⟩) (by first | exact Nat.zero_le _ | decide) (by first | exact Nat.zero_le _ | decide) dX12_slip_136
      refine r_iload_n C 3 dX12_slip_54 rfl rfl ?_
      refine r_iconst C (v := nI 2) dX12_slip_55 (by decide) ?_
      refine r_icmp_ltN C (t := 64) (by omega) (by omega) dX12_slip_56 (by decide) (fun c56 => ?_) (fun c56 => ?_)
      · skip
        refine r_aload_n C 0 dX12_slip_64 rfl rfl ?_
        refine r_iload_n C 3 dX12_slip_65 rfl rfl ?_
        refine r_iload_n C 2 dX12_slip_66 rfl rfl ?_
        refine r_callV C hgX (ci := 14) ml_X12_392 im_X12_sumOf se_X12_sumOf rfl rfl hm.k (c_X12_sumOf l hfl G My1 mb hm τ c w d (by omega) (by omega) (hbk _ (by omega))) rfl (Nat.le_of_ble_eq_true rfl) ⟨Nat.le_of_ble_eq_true rfl, Nat.le_of_ble_eq_true rfl⟩ ⟨Nat.le_of_ble_eq_true rfl, Nat.le_of_ble_eq_true rfl⟩ dX12_slip_67 rfl ?_
        rintro _ _ ⟨rfl, rfl⟩
        refine V.eSt (st' := [.long (sumS τ c d w)]) rfl ?_
        refine r_goto C (t := 136) dX12_slip_70 (by decide) ?_
        refine V.el (y := slL τ c d w) (by unfold slL; rw [if_neg (by omega), if_neg (by omega), if_neg (by omega), if_neg (by omega), if_neg (by omega)]) ?_
        exact jn136
      · skip
        refine r_iload_n C 3 dX12_slip_59 rfl rfl ?_
        refine r_iconst C (v := nI 3) dX12_slip_60 (by decide) ?_
        refine r_icmp_neN C (t := 73) (by omega) (by omega) dX12_slip_61 (by decide) (fun c61 => ?_) (fun c61 => ?_)
        · skip
          refine r_iload_n C 3 dX12_slip_73 rfl rfl ?_
          refine r_iconst C (v := nI 2) dX12_slip_74 (by decide) ?_
          refine r_icmp_neN C (t := 87) (by omega) (by omega) dX12_slip_75 (by decide) (fun c75 => ?_) (fun c75 => ?_)
          · skip
            refine r_iload_n C 3 dX12_slip_87 rfl rfl ?_
            refine r_iconst C (v := nI 4) dX12_slip_88 (by decide) ?_
            refine r_icmp_neN C (t := 101) (by omega) (by omega) dX12_slip_89 (by decide) (fun c89 => ?_) (fun c89 => ?_)
            · skip
              refine r_iload_n C 3 dX12_slip_101 rfl rfl ?_
              refine r_iconst C (v := nI 5) dX12_slip_102 (by decide) ?_
              refine r_icmp_neN C (t := 115) (by omega) (by omega) dX12_slip_103 (by decide) (fun c103 => ?_) (fun c103 => ?_)
              · skip
                refine r_iload_n C 3 dX12_slip_115 rfl rfl ?_
                refine r_bipush C (v := nI 6) dX12_slip_116 (by decide) ?_
                refine r_icmp_neN C (t := 130) (by omega) (by omega) dX12_slip_118 (by decide) (fun c118 => ?_) (fun c118 => ?_)
                · skip
                  refine r_aload_n C 0 dX12_slip_130 rfl rfl ?_
                  refine r_getR C (b := (ma mb 61)) fl_X12_161 rfl hm.k (hm.r 61 rfl) dX12_slip_131 ?_
                  refine r_iload_n C 2 dX12_slip_134 rfl rfl ?_
                  refine r_laloadN C (hm.i 61 21 rfl) (hm.n 61 24 rfl) (by omega) (by omega) dX12_slip_135 ?_
                  refine V.el (y := mtL τ c d) ((hbk d hd).2.1.2.1) ?_
                  refine V.el (y := slL τ c d w) (by unfold slL; rw [if_neg c75, if_neg c89, if_neg c103, if_neg c118, if_pos (by omega)]) ?_
                  exact jn136
                · skip
                  refine r_aload_n C 0 dX12_slip_121 rfl rfl ?_
                  refine r_getR C (b := (ma mb 64)) fl_X12_170 rfl hm.k (hm.r 64 rfl) dX12_slip_122 ?_
                  refine r_iload_n C 2 dX12_slip_125 rfl rfl ?_
                  refine r_laloadN C (hm.i 64 21 rfl) (hm.n 64 24 rfl) (by omega) (by omega) dX12_slip_126 ?_
                  refine V.el (y := pyL τ c d) ((hbk d hd).2.1.2.2.2.2) ?_
                  refine r_goto C (t := 136) dX12_slip_127 (by decide) ?_
                  refine V.el (y := slL τ c d w) (by unfold slL; rw [if_neg c75, if_neg c89, if_neg c103, if_pos c118]) ?_
                  exact jn136
              · skip
                refine r_aload_n C 0 dX12_slip_106 rfl rfl ?_
                refine r_getR C (b := (ma mb 63)) fl_X12_167 rfl hm.k (hm.r 63 rfl) dX12_slip_107 ?_
                refine r_iload_n C 2 dX12_slip_110 rfl rfl ?_
                refine r_laloadN C (hm.i 63 21 rfl) (hm.n 63 24 rfl) (by omega) (by omega) dX12_slip_111 ?_
                refine V.el (y := ntL τ c d - lvL τ c d) ((hbk d hd).2.1.2.2.2.1) ?_
                refine r_goto C (t := 136) dX12_slip_112 (by decide) ?_
                refine V.el (y := slL τ c d w) (by unfold slL; rw [if_neg c75, if_neg c89, if_pos c103]) ?_
                exact jn136
            · skip
              refine r_aload_n C 0 dX12_slip_92 rfl rfl ?_
              refine r_getR C (b := (ma mb 62)) fl_X12_164 rfl hm.k (hm.r 62 rfl) dX12_slip_93 ?_
              refine r_iload_n C 2 dX12_slip_96 rfl rfl ?_
              refine r_laloadN C (hm.i 62 21 rfl) (hm.n 62 24 rfl) (by omega) (by omega) dX12_slip_97 ?_
              refine V.el (y := ntL τ c d) ((hbk d hd).2.1.2.2.1) ?_
              refine r_goto C (t := 136) dX12_slip_98 (by decide) ?_
              refine V.el (y := slL τ c d w) (by unfold slL; rw [if_neg c75, if_pos c89]) ?_
              exact jn136
          · skip
            refine r_aload_n C 0 dX12_slip_78 rfl rfl ?_
            refine r_getR C (b := (ma mb 60)) fl_X12_158 rfl hm.k (hm.r 60 rfl) dX12_slip_79 ?_
            refine r_iload_n C 2 dX12_slip_82 rfl rfl ?_
            refine r_laloadN C (hm.i 60 21 rfl) (hm.n 60 24 rfl) (by omega) (by omega) dX12_slip_83 ?_
            refine V.el (y := pnL τ c d) ((hbk d hd).2.1.1) ?_
            refine r_goto C (t := 136) dX12_slip_84 (by decide) ?_
            refine V.el (y := slL τ c d w) (by unfold slL; rw [if_pos c75]) ?_
            exact jn136
        · skip
          refine r_aload_n C 0 dX12_slip_64 rfl rfl ?_
          refine r_iload_n C 3 dX12_slip_65 rfl rfl ?_
          refine r_iload_n C 2 dX12_slip_66 rfl rfl ?_
          refine r_callV C hgX (ci := 14) ml_X12_392 im_X12_sumOf se_X12_sumOf rfl rfl hm.k (c_X12_sumOf l hfl G My1 mb hm τ c w d (by omega) (by omega) (hbk _ (by omega))) rfl (Nat.le_of_ble_eq_true rfl) ⟨Nat.le_of_ble_eq_true rfl, Nat.le_of_ble_eq_true rfl⟩ ⟨Nat.le_of_ble_eq_true rfl, Nat.le_of_ble_eq_true rfl⟩ dX12_slip_67 rfl ?_
          rintro _ _ ⟨rfl, rfl⟩
          refine V.eSt (st' := [.long (sumS τ c d w)]) rfl ?_
          refine r_goto C (t := 136) dX12_slip_70 (by decide) ?_
          refine V.el (y := slL τ c d w) (by unfold slL; rw [if_neg (by omega), if_neg (by omega), if_neg (by omega), if_neg (by omega), if_neg (by omega)]) ?_
          exact jn136
    · skip
      have c42d := of_decide_eq_true c42
      have hC : (cd2 (rng x 6 && rng y 24) (inB z (lN 0) (lN 7))) ≠ 0 := c42d
      refine r_ldc2 C (v := (-1)) kl_X12_275 dX12_slip_45 ?_
      exact r_lret C hr (⟨h67, hfo.mo, hlb, fun _ => ⟨ht, htb⟩, fun q => absurd q hC, by first | exact KD.i | exact KD.l | exact KD.n⟩) (by first | exact Nat.zero_le _ | decide) (by first | exact Nat.zero_le _ | decide) dX12_slip_48
  refine r_aload_n C 0 dX12_slip_1 rfl rfl ?_
  refine r_iload_n C 1 dX12_slip_2 rfl rfl ?_
  refine r_callV C hgX (ci := 14) ml_X12_212 im_X12_isPerson se_X12_isPerson rfl rfl hm.k (c_X12_isPerson l hfl G M mb hm x) rfl (Nat.le_of_ble_eq_true rfl) ⟨Nat.le_of_ble_eq_true rfl, Nat.le_of_ble_eq_true rfl⟩ ⟨Nat.le_of_ble_eq_true rfl, Nat.le_of_ble_eq_true rfl⟩ dX12_slip_3 rfl ?_
  rintro _ _ ⟨rfl, rfl⟩
  refine V.eSt (st' := [.int (bI (rng x 6)), .ref mb]) rfl ?_
  refine r_if_eqB C (t := 17) dX12_slip_6 (by decide) (fun c6 => ?_) (fun c6 => ?_)
  · skip
    refine r_iconst C (v := nI 1) dX12_slip_17 (by decide) ?_
    refine r_goto C (t := 39) dX12_slip_18 (by decide) ?_
    refine V.ei (y := nI (cd2 (rng x 6 && rng y 24) (inB z (lN 0) (lN 7)))) (congrArg nI (by simp only [c6] <;> rfl)) ?_
    exact jn39
  · skip
    refine r_aload_n C 0 dX12_slip_9 rfl rfl ?_
    refine r_iload_n C 2 dX12_slip_10 rfl rfl ?_
    refine r_callV C hgX (ci := 14) ml_X12_272 im_X12_isMonth se_X12_isMonth rfl rfl hm.k (c_X12_isMonth l hfl G M mb hm y) rfl (Nat.le_of_ble_eq_true rfl) ⟨Nat.le_of_ble_eq_true rfl, Nat.le_of_ble_eq_true rfl⟩ ⟨Nat.le_of_ble_eq_true rfl, Nat.le_of_ble_eq_true rfl⟩ dX12_slip_11 rfl ?_
    rintro _ _ ⟨rfl, rfl⟩
    refine V.eSt (st' := [.int (bI (rng y 24)), .ref mb]) rfl ?_
    refine r_if_neB C (t := 21) dX12_slip_14 (by decide) (fun c14 => ?_) (fun c14 => ?_)
    · skip
      refine r_aload_n C 0 dX12_slip_21 rfl rfl ?_
      refine r_iload_n C 3 dX12_slip_22 rfl rfl ?_
      refine r_i2l C dX12_slip_23 ?_
      refine r_lconst C (v := lN 0) dX12_slip_24 (by decide) ?_
      refine r_ldc2 C (v := 7) kl_X12_387 dX12_slip_25 ?_
      refine V.el (y := lN 7) (by decide) ?_
      refine r_callV C hgX (ci := 14) ml_X12_191 im_X12_in se_X12_in rfl rfl hm.k (c_X12_in l hfl G M mb z.toInt64 (lN 0) (lN 7)) rfl (Nat.le_of_ble_eq_true rfl) ⟨Nat.le_of_ble_eq_true rfl, Nat.le_of_ble_eq_true rfl⟩ ⟨Nat.le_of_ble_eq_true rfl, Nat.le_of_ble_eq_true rfl⟩ dX12_slip_28 rfl ?_
      rintro _ _ ⟨rfl, rfl⟩
      refine V.eSt (st' := [.int (bI (decide ((lN 0) ≤ z.toInt64 ∧ z.toInt64 ≤ (lN 7)))), .ref mb]) rfl ?_
      refine V.ei (y := bI (inB z (lN 0) (lN 7))) rfl ?_
      refine r_if_eqB C (t := 38) dX12_slip_31 (by decide) (fun c31 => ?_) (fun c31 => ?_)
      · skip
        refine r_iconst C (v := nI 2) dX12_slip_38 (by decide) ?_
        refine V.ei (y := nI (cd2 (rng x 6 && rng y 24) (inB z (lN 0) (lN 7)))) (congrArg nI (by simp only [c6, c14, c31] <;> rfl)) ?_
        exact jn39
      · skip
        refine r_iconst C (v := nI 0) dX12_slip_34 (by decide) ?_
        refine r_goto C (t := 39) dX12_slip_35 (by decide) ?_
        refine V.ei (y := nI (cd2 (rng x 6 && rng y 24) (inB z (lN 0) (lN 7)))) (congrArg nI (by simp only [c6, c14, c31] <;> rfl)) ?_
        exact jn39
    · skip
      refine r_iconst C (v := nI 1) dX12_slip_17 (by decide) ?_
      refine r_goto C (t := 39) dX12_slip_18 (by decide) ?_
      refine V.ei (y := nI (cd2 (rng x 6 && rng y 24) (inB z (lN 0) (lN 7)))) (congrArg nI (by simp only [c6, c14] <;> rfl)) ?_
      exact jn39
set_option maxHeartbeats 4000000 in
set_option maxRecDepth 100000 in
theorem c_X12_slipIn (l : Launch) (hfl : l.flags = flags0) (G : gW) (M : Mem) (mb : Nat) (τ : Mu) (hm : MOK (mK M) (mN M) (mR M) mb) (ht : TE (mI M) (mL M) mb τ) (hw : WF τ) (htb : TEb (mI M) (mL M) mb τ) (hlb : LTB M mb) (x y z w : Int32) : CT l yX12_slipIn cX12_slipIn 7 (some .long) 6 0 0 164 G M [.ref mb, .int x, .int y, .int z, .int w] (fun v M' => PP mb M τ (cd2 (rng x 6 && rng y 24 && rng z 3) (decide (w = 0) || decide (w = nI 1) || decide (w = nI 3))) (τ) (some (.long (inI τ x.toNatClampNeg y.toNatClampNeg z.toNatClampNeg w))) v M') := by
  refine CT.of hfl rfl (Nat.le_of_ble_eq_true rfl) ?_
  intro pp ee ss mm ar bw mt cd C hgX hr hini
  have hnc := hw.nc.2
  have hsh := hw.sh.2
  have hnl := hw.nl.2
  have hne := hw.ne.2
  have hng := hw.ng.2
  have hop := hw.op.2
  have hnp := hw.np.2
  have ht0 := ht
  have hm0 := hm
  have htb0 := htb
  have hfo := fOut.rf [67, 16, 21, 28, 29, 55, 56, 57, 58, 59, 60, 61, 62, 63, 64, 65, 66] mb M
  refine V.eLo (lo' := [(0, .ref mb), (1, .int x), (2, .int y), (3, .int z), (4, .int w)]) rfl ?_
  have jn29 : V pp l ee ({ frames := 6, cells := 0, slots := 0, locals := 164 } : Room) ss mm ar bw mt cd G (MQ bw (Ke G (fun v M' => PP mb M τ (cd2 (rng x 6 && rng y 24 && rng z 3) (decide (w = 0) || decide (w = nI 1) || decide (w = nI 3))) (τ) (some (.long (inI τ x.toNatClampNeg y.toNatClampNeg z.toNatClampNeg w))) v M')) ar ss 0 0 (gA G)) 7 M 0 0 29 [(0, .ref mb), (1, .int x), (2, .int y), (3, .int z), (4, .int w)] [.int (bI (rng x 6 && rng y 24 && rng z 3))] := by
    skip
    refine r_istore C (lo' := [(5, .int (bI (rng x 6 && rng y 24 && rng z 3))), (0, .ref mb), (1, .int x), (2, .int y), (3, .int z), (4, .int w)]) dX12_slipIn_29 (by decide) rfl ?_
    refine r_aload_n C 1 dX12_slipIn_31 rfl rfl ?_
    have jn63 : V pp l ee ({ frames := 6, cells := 0, slots := 0, locals := 164 } : Room) ss mm ar bw mt cd G (MQ bw (Ke G (fun v M' => PP mb M τ (cd2 (rng x 6 && rng y 24 && rng z 3) (decide (w = 0) || decide (w = nI 1) || decide (w = nI 3))) (τ) (some (.long (inI τ x.toNatClampNeg y.toNatClampNeg z.toNatClampNeg w))) v M')) ar ss 0 0 (gA G)) 7 M 0 0 63 [(5, .int (bI (rng x 6 && rng y 24 && rng z 3))), (0, .ref mb), (1, .int x), (2, .int y), (3, .int z), (4, .int w)] [.int (nI (cd2 (rng x 6 && rng y 24 && rng z 3) (decide (w = 0) || decide (w = nI 1) || decide (w = nI 3)))), .ref mb] := by
      skip
      refine r_callV C hgX (ci := 14) ml_X12_227 im_X12_holds se_X12_holds rfl rfl hm.k (c_X12_holds l hfl G M mb hm (nI (cd2 (rng x 6 && rng y 24 && rng z 3) (decide (w = 0) || decide (w = nI 1) || decide (w = nI 3))))) rfl (Nat.le_of_ble_eq_true rfl) ⟨Nat.le_of_ble_eq_true rfl, Nat.le_of_ble_eq_true rfl⟩ ⟨Nat.le_of_ble_eq_true rfl, Nat.le_of_ble_eq_true rfl⟩ dX12_slipIn_63 rfl ?_
      rintro _ _ ⟨rfl, rfl⟩
      refine V.eSt (st' := [.int (bI (decide (0 < nI (cd2 (rng x 6 && rng y 24 && rng z 3) (decide (w = 0) || decide (w = nI 1) || decide (w = nI 3))))))]) rfl ?_
      refine V.ei (y := bI (decide ((cd2 (rng x 6 && rng y 24 && rng z 3) (decide (w = 0) || decide (w = nI 1) || decide (w = nI 3))) ≠ 0))) (congrArg bI (hold_d (cd2_le _ _))) ?_
      have hfo := hfo.set0 67 (nI (cd2 (rng x 6 && rng y 24 && rng z 3) (decide (w = 0) || decide (w = nI 1) || decide (w = nI 3)))) rfl
      have ht := ht.ws 67 (nI (cd2 (rng x 6 && rng y 24 && rng z 3) (decide (w = 0) || decide (w = nI 1) || decide (w = nI 3)))) rfl rfl
      have htb := ((fOut.rf [67] mb _).set0 67 (nI (cd2 (rng x 6 && rng y 24 && rng z 3) (decide (w = 0) || decide (w = nI 1) || decide (w = nI 3)))) rfl).tb rfl htb
      have h67 : mI (wI M mb 67 (nI (cd2 (rng x 6 && rng y 24 && rng z 3) (decide (w = 0) || decide (w = nI 1) || decide (w = nI 3))))) mb 67 = nI (cd2 (rng x 6 && rng y 24 && rng z 3) (decide (w = 0) || decide (w = nI 1) || decide (w = nI 3))) := up2_same _ _ _ _
      have hlb : LTB (wI M mb 67 (nI (cd2 (rng x 6 && rng y 24 && rng z 3) (decide (w = 0) || decide (w = nI 1) || decide (w = nI 3))))) mb := hlb.ws 67 _
      refine r_if_eqB C (t := 73) dX12_slipIn_66 (by decide) (fun c66 => ?_) (fun c66 => ?_)
      · skip
        have c66d := of_decide_eq_false c66
        have hC : (cd2 (rng x 6 && rng y 24 && rng z 3) (decide (w = 0) || decide (w = nI 1) || decide (w = nI 3))) = 0 := by have := c66d; omega
        obtain ⟨h1, h2⟩ := cd2_0 hC
        obtain ⟨hxy, hz⟩ := Bool.and_eq_true_iff.mp h1
        obtain ⟨hx, hy⟩ := Bool.and_eq_true_iff.mp hxy
        obtain ⟨c, hc, e_x⟩ := rng_t hx
        obtain ⟨d, hd, e_y⟩ := rng_t hy
        obtain ⟨e, he, e_z⟩ := rng_t hz
        refine V.eLo (lo' := [(5, .int (bI (rng x 6 && rng y 24 && rng z 3))), (0, .ref mb), (1, .int (nI c)), (2, .int (nI d)), (3, .int (nI e)), (4, .int w)]) (by rw [e_x, e_y, e_z]) ?_
        refine r_aload_n C 1 dX12_slipIn_73 rfl rfl ?_
        refine r_iload_n C 2 dX12_slipIn_74 rfl rfl ?_
        refine r_callV C hgX (ci := 14) ml_X12_389 im_X12_slips se_X12_slips rfl rfl (show mK (wI M mb 67 (nI (cd2 (rng x 6 && rng y 24 && rng z 3) (decide (w = 0) || decide (w = nI 1) || decide (w = nI 3))))) mb = 14 + 1 from hm.k) (c_X12_slips l hfl G (wI M mb 67 (nI (cd2 (rng x 6 && rng y 24 && rng z 3) (decide (w = 0) || decide (w = nI 1) || decide (w = nI 3))))) mb τ hm ht hw c (by omega) (hlb)) rfl (Nat.le_of_ble_eq_true rfl) ⟨Nat.le_of_ble_eq_true rfl, Nat.le_of_ble_eq_true rfl⟩ ⟨Nat.le_of_ble_eq_true rfl, Nat.le_of_ble_eq_true rfl⟩ dX12_slipIn_75 rfl ?_
        rintro _ My1 ⟨rfl, hfo1, hbk1, hlb1⟩
        have hm := hfo1.ok hm
        have ht := hfo1.te rfl ht
        have htb := hfo1.tb rfl htb
        have h67 := (hfo1.s 67 rfl).trans h67
        have hfo := hfo.tr (hfo1.mono rfl)
        have hlb := hlb1
        have hbk := hbk1
        obtain ⟨b1, b2, b3, b4, b5⟩ := (hbk d hd).1 e he
        refine r_iconst C (v := nI 3) dX12_slipIn_78 (by decide) ?_
        refine r_iload_n C 3 dX12_slipIn_79 rfl rfl ?_
        refine r_imulN C dX12_slipIn_80 ?_
        refine r_iload_n C 4 dX12_slipIn_81 rfl rfl ?_
        refine r_iaddN C dX12_slipIn_82 ?_
        refine r_istore C (lo' := [(6, .int (nI (3 * d + e))), (5, .int (bI (rng x 6 && rng y 24 && rng z 3))), (0, .ref mb), (1, .int (nI c)), (2, .int (nI d)), (3, .int (nI e)), (4, .int w)]) dX12_slipIn_83 (by decide) rfl ?_
        have jn123 : V pp l ee ({ frames := 6, cells := 0, slots := 0, locals := 164 } : Room) ss mm ar bw mt cd G (MQ bw (Ke G (fun v M' => PP mb M τ (cd2 (rng x 6 && rng y 24 && rng z 3) (decide (w = 0) || decide (w = nI 1) || decide (w = nI 3))) (τ) (some (.long (inI τ x.toNatClampNeg y.toNatClampNeg z.toNatClampNeg w))) v M')) ar ss 0 0 (gA G)) 7 My1 0 0 123 [(6, .int (nI (3 * d + e))), (5, .int (bI (rng x 6 && rng y 24 && rng z 3))), (0, .ref mb), (1, .int (nI c)), (2, .int (nI d)), (3, .int (nI e)), (4, .int w)] [.long (inI τ c d e w)] := by
          skip
          exact r_lret C hr (⟨h67, hfo.mo, hlb, fun q => absurd hC q, fun _ => ⟨by rw [e_x, e_y, e_z, nI_clamp (n := c) (by omega), nI_clamp (n := d) (by omega), nI_clamp (n := e) (by omega)], ht, htb.cg rfl rfl (fun _ => ⟨rfl, rfl⟩) (fun _ => ⟨rfl, rfl⟩) (fun _ => ⟨rfl, rfl⟩) (fun _ => ⟨rfl, rfl⟩) (fun _ => ⟨rfl, rfl⟩) (fun _ => ⟨rfl, rfl⟩) (fun _ => ⟨rfl, rfl⟩) ⟩, by first | exact KD.i | exact KD.l | exact KD.n⟩) (by first | exact Nat.zero_le _ | decide) (by first | exact Nat.zero_le _ | decide) dX12_slipIn_123
        refine r_iload C 6 dX12_slipIn_85 rfl ?_
        refine r_if_ne C (t := 100) dX12_slipIn_87 (by decide) (fun c87 => ?_) (fun c87 => ?_)
        · skip
          refine r_iload C 6 dX12_slipIn_100 rfl ?_
          refine r_iconst C (v := nI 1) dX12_slipIn_102 (by decide) ?_
          refine r_icmp_ne C (t := 116) dX12_slipIn_103 (by decide) (fun c103 => ?_) (fun c103 => ?_)
          · skip
            refine r_aload_n C 2 dX12_slipIn_116 rfl rfl ?_
            refine r_getR C (b := (ma mb 59)) fl_X12_155 rfl hm.k (hm.r 59 rfl) dX12_slipIn_117 ?_
            refine r_iload C 0 dX12_slipIn_120 rfl ?_
            refine r_laloadN C (hm.i 59 21 rfl) (hm.n 59 72 rfl) (by omega) (by omega) dX12_slipIn_122 ?_
            refine V.el (y := taL τ c d e) (b5) ?_
            refine V.el (y := inI τ c d e w) (by unfold inI; rw [if_neg c87, if_neg c103]) ?_
            exact jn123
          · skip
            refine r_aload_n C 2 dX12_slipIn_106 rfl rfl ?_
            refine r_getR C (b := (ma mb 57)) fl_X12_149 rfl hm.k (hm.r 57 rfl) dX12_slipIn_107 ?_
            refine r_iload C 0 dX12_slipIn_110 rfl ?_
            refine r_laloadN C (hm.i 57 21 rfl) (hm.n 57 72 rfl) (by omega) (by omega) dX12_slipIn_112 ?_
            refine V.el (y := coL τ c d e) (b3) ?_
            refine r_goto C (t := 123) dX12_slipIn_113 (by decide) ?_
            refine V.el (y := inI τ c d e w) (by unfold inI; rw [if_neg c87, if_pos c103]) ?_
            exact jn123
        · skip
          refine r_aload_n C 2 dX12_slipIn_90 rfl rfl ?_
          refine r_getR C (b := (ma mb 55)) fl_X12_143 rfl hm.k (hm.r 55 rfl) dX12_slipIn_91 ?_
          refine r_iload C 0 dX12_slipIn_94 rfl ?_
          refine r_laloadN C (hm.i 55 21 rfl) (hm.n 55 72 rfl) (by omega) (by omega) dX12_slipIn_96 ?_
          refine V.el (y := grL τ c d e) (b1) ?_
          refine r_goto C (t := 123) dX12_slipIn_97 (by decide) ?_
          refine V.el (y := inI τ c d e w) (by unfold inI; rw [if_pos c87]) ?_
          exact jn123
      · skip
        have c66d := of_decide_eq_true c66
        have hC : (cd2 (rng x 6 && rng y 24 && rng z 3) (decide (w = 0) || decide (w = nI 1) || decide (w = nI 3))) ≠ 0 := c66d
        refine r_ldc2 C (v := (-1)) kl_X12_275 dX12_slipIn_69 ?_
        exact r_lret C hr (⟨h67, hfo.mo, hlb, fun _ => ⟨ht, htb⟩, fun q => absurd q hC, by first | exact KD.i | exact KD.l | exact KD.n⟩) (by first | exact Nat.zero_le _ | decide) (by first | exact Nat.zero_le _ | decide) dX12_slipIn_72
    refine r_iload C 0 dX12_slipIn_32 rfl ?_
    refine r_if_neB C (t := 41) dX12_slipIn_34 (by decide) (fun c34 => ?_) (fun c34 => ?_)
    · skip
      refine r_iload C 5 dX12_slipIn_41 rfl ?_
      refine r_if_eq C (t := 58) dX12_slipIn_43 (by decide) (fun c43 => ?_) (fun c43 => ?_)
      · skip
        refine r_iconst C (v := nI 0) dX12_slipIn_58 (by decide) ?_
        refine r_goto C (t := 63) dX12_slipIn_59 (by decide) ?_
        refine V.ei (y := nI (cd2 (rng x 6 && rng y 24 && rng z 3) (decide (w = 0) || decide (w = nI 1) || decide (w = nI 3)))) (congrArg nI (by simp only [c34, decide_eq_true c43] <;> rfl)) ?_
        exact jn63
      · skip
        refine r_iload C 5 dX12_slipIn_46 rfl ?_
        refine r_iconst C (v := nI 1) dX12_slipIn_48 (by decide) ?_
        refine r_icmp_eq C (t := 58) dX12_slipIn_49 (by decide) (fun c49 => ?_) (fun c49 => ?_)
        · skip
          refine r_iconst C (v := nI 0) dX12_slipIn_58 (by decide) ?_
          refine r_goto C (t := 63) dX12_slipIn_59 (by decide) ?_
          refine V.ei (y := nI (cd2 (rng x 6 && rng y 24 && rng z 3) (decide (w = 0) || decide (w = nI 1) || decide (w = nI 3)))) (congrArg nI (by simp only [c34, decide_eq_false c43, decide_eq_true c49] <;> rfl)) ?_
          exact jn63
        · skip
          refine r_iload C 5 dX12_slipIn_52 rfl ?_
          refine r_iconst C (v := nI 3) dX12_slipIn_54 (by decide) ?_
          refine r_icmp_ne C (t := 62) dX12_slipIn_55 (by decide) (fun c55 => ?_) (fun c55 => ?_)
          · skip
            refine r_iconst C (v := nI 2) dX12_slipIn_62 (by decide) ?_
            refine V.ei (y := nI (cd2 (rng x 6 && rng y 24 && rng z 3) (decide (w = 0) || decide (w = nI 1) || decide (w = nI 3)))) (congrArg nI (by simp only [c34, decide_eq_false c43, decide_eq_false c49, show decide (w = nI 3) = false from decide_eq_false c55] <;> rfl)) ?_
            exact jn63
          · skip
            refine r_iconst C (v := nI 0) dX12_slipIn_58 (by decide) ?_
            refine r_goto C (t := 63) dX12_slipIn_59 (by decide) ?_
            refine V.ei (y := nI (cd2 (rng x 6 && rng y 24 && rng z 3) (decide (w = 0) || decide (w = nI 1) || decide (w = nI 3)))) (congrArg nI (by simp only [c34, decide_eq_false c43, decide_eq_false c49, decide_eq_true c55] <;> rfl)) ?_
            exact jn63
    · skip
      refine r_iconst C (v := nI 1) dX12_slipIn_37 (by decide) ?_
      refine r_goto C (t := 63) dX12_slipIn_38 (by decide) ?_
      refine V.ei (y := nI (cd2 (rng x 6 && rng y 24 && rng z 3) (decide (w = 0) || decide (w = nI 1) || decide (w = nI 3)))) (congrArg nI (by simp only [c34] <;> rfl)) ?_
      exact jn63
  refine r_aload_n C 0 dX12_slipIn_0 rfl rfl ?_
  refine r_iload_n C 1 dX12_slipIn_1 rfl rfl ?_
  refine r_callV C hgX (ci := 14) ml_X12_212 im_X12_isPerson se_X12_isPerson rfl rfl hm.k (c_X12_isPerson l hfl G M mb hm x) rfl (Nat.le_of_ble_eq_true rfl) ⟨Nat.le_of_ble_eq_true rfl, Nat.le_of_ble_eq_true rfl⟩ ⟨Nat.le_of_ble_eq_true rfl, Nat.le_of_ble_eq_true rfl⟩ dX12_slipIn_2 rfl ?_
  rintro _ _ ⟨rfl, rfl⟩
  refine V.eSt (st' := [.int (bI (rng x 6))]) rfl ?_
  refine r_if_eqB C (t := 28) dX12_slipIn_5 (by decide) (fun c5 => ?_) (fun c5 => ?_)
  · skip
    refine r_iconst C (v := nI 0) dX12_slipIn_28 (by decide) ?_
    refine V.eSt (st' := [.int (bI false)]) rfl ?_
    refine V.ei (y := bI (rng x 6 && rng y 24 && rng z 3)) (congrArg bI (by simp only [c5] <;> rfl)) ?_
    exact jn29
  · skip
    refine r_aload_n C 0 dX12_slipIn_8 rfl rfl ?_
    refine r_iload_n C 2 dX12_slipIn_9 rfl rfl ?_
    refine r_callV C hgX (ci := 14) ml_X12_272 im_X12_isMonth se_X12_isMonth rfl rfl hm.k (c_X12_isMonth l hfl G M mb hm y) rfl (Nat.le_of_ble_eq_true rfl) ⟨Nat.le_of_ble_eq_true rfl, Nat.le_of_ble_eq_true rfl⟩ ⟨Nat.le_of_ble_eq_true rfl, Nat.le_of_ble_eq_true rfl⟩ dX12_slipIn_10 rfl ?_
    rintro _ _ ⟨rfl, rfl⟩
    refine V.eSt (st' := [.int (bI (rng y 24))]) rfl ?_
    refine r_if_eqB C (t := 28) dX12_slipIn_13 (by decide) (fun c13 => ?_) (fun c13 => ?_)
    · skip
      refine r_iconst C (v := nI 0) dX12_slipIn_28 (by decide) ?_
      refine V.eSt (st' := [.int (bI false)]) rfl ?_
      refine V.ei (y := bI (rng x 6 && rng y 24 && rng z 3)) (congrArg bI (by simp only [c5, c13] <;> rfl)) ?_
      exact jn29
    · skip
      refine r_aload_n C 0 dX12_slipIn_16 rfl rfl ?_
      refine r_iload_n C 3 dX12_slipIn_17 rfl rfl ?_
      refine r_callV C hgX (ci := 14) ml_X12_215 im_X12_isPlace se_X12_isPlace rfl rfl hm.k (c_X12_isPlace l hfl G M mb hm z) rfl (Nat.le_of_ble_eq_true rfl) ⟨Nat.le_of_ble_eq_true rfl, Nat.le_of_ble_eq_true rfl⟩ ⟨Nat.le_of_ble_eq_true rfl, Nat.le_of_ble_eq_true rfl⟩ dX12_slipIn_18 rfl ?_
      rintro _ _ ⟨rfl, rfl⟩
      refine V.eSt (st' := [.int (bI (rng z 3))]) rfl ?_
      refine r_if_eqB C (t := 28) dX12_slipIn_21 (by decide) (fun c21 => ?_) (fun c21 => ?_)
      · skip
        refine r_iconst C (v := nI 0) dX12_slipIn_28 (by decide) ?_
        refine V.eSt (st' := [.int (bI false)]) rfl ?_
        refine V.ei (y := bI (rng x 6 && rng y 24 && rng z 3)) (congrArg bI (by simp only [c5, c13, c21] <;> rfl)) ?_
        exact jn29
      · skip
        refine r_iconst C (v := nI 1) dX12_slipIn_24 (by decide) ?_
        refine r_goto C (t := 29) dX12_slipIn_25 (by decide) ?_
        refine V.eSt (st' := [.int (bI true)]) rfl ?_
        refine V.ei (y := bI (rng x 6 && rng y 24 && rng z 3)) (congrArg bI (by simp only [c5, c13, c21] <;> rfl)) ?_
        exact jn29
set_option maxHeartbeats 4000000 in
set_option maxRecDepth 100000 in
theorem c_X12_elementOf (l : Launch) (hfl : l.flags = flags0) (G : gW) (M : Mem) (mb : Nat) (τ : Mu) (hm : MOK (mK M) (mN M) (mR M) mb) (ht : TE (mI M) (mL M) mb τ) (hw : WF τ) (htb : TEb (mI M) (mL M) mb τ) (hlb : LTB M mb) (x y z : Int32) : CT l yX12_elementOf cX12_elementOf 5 (some .long) 6 0 0 164 G M [.ref mb, .int x, .int y, .int z] (fun v M' => PP mb M τ (cd1 (rng x (un τ 26 26) && rng y 6 && rng z 24)) (τ) (some (.long (elL τ y.toNatClampNeg z.toNatClampNeg x.toNatClampNeg))) v M') := by
  refine CT.of hfl rfl (Nat.le_of_ble_eq_true rfl) ?_
  intro pp ee ss mm ar bw mt cd C hgX hr hini
  have hnc := hw.nc.2
  have hsh := hw.sh.2
  have hnl := hw.nl.2
  have hne := hw.ne.2
  have hng := hw.ng.2
  have hop := hw.op.2
  have hnp := hw.np.2
  have ht0 := ht
  have hm0 := hm
  have htb0 := htb
  have hfo := fOut.rf [67, 16, 21, 28, 29, 55, 56, 57, 58, 59, 60, 61, 62, 63, 64, 65, 66] mb M
  refine V.eLo (lo' := [(0, .ref mb), (1, .int x), (2, .int y), (3, .int z)]) rfl ?_
  have jn38 : V pp l ee ({ frames := 6, cells := 0, slots := 0, locals := 164 } : Room) ss mm ar bw mt cd G (MQ bw (Ke G (fun v M' => PP mb M τ (cd1 (rng x (un τ 26 26) && rng y 6 && rng z 24)) (τ) (some (.long (elL τ y.toNatClampNeg z.toNatClampNeg x.toNatClampNeg))) v M')) ar ss 0 0 (gA G)) 5 M 0 0 38 [(0, .ref mb), (1, .int x), (2, .int y), (3, .int z)] [.int (bI (rng x (un τ 26 26) && rng y 6 && rng z 24))] := by
    skip
    refine r_istore C (lo' := [(4, .int (bI (rng x (un τ 26 26) && rng y 6 && rng z 24))), (0, .ref mb), (1, .int x), (2, .int y), (3, .int z)]) dX12_elementOf_38 (by decide) rfl ?_
    refine r_aload_n C 1 dX12_elementOf_40 rfl rfl ?_
    have jn51 : V pp l ee ({ frames := 6, cells := 0, slots := 0, locals := 164 } : Room) ss mm ar bw mt cd G (MQ bw (Ke G (fun v M' => PP mb M τ (cd1 (rng x (un τ 26 26) && rng y 6 && rng z 24)) (τ) (some (.long (elL τ y.toNatClampNeg z.toNatClampNeg x.toNatClampNeg))) v M')) ar ss 0 0 (gA G)) 5 M 0 0 51 [(4, .int (bI (rng x (un τ 26 26) && rng y 6 && rng z 24))), (0, .ref mb), (1, .int x), (2, .int y), (3, .int z)] [.int (nI (cd1 (rng x (un τ 26 26) && rng y 6 && rng z 24))), .ref mb] := by
      skip
      refine r_callV C hgX (ci := 14) ml_X12_227 im_X12_holds se_X12_holds rfl rfl hm.k (c_X12_holds l hfl G M mb hm (nI (cd1 (rng x (un τ 26 26) && rng y 6 && rng z 24)))) rfl (Nat.le_of_ble_eq_true rfl) ⟨Nat.le_of_ble_eq_true rfl, Nat.le_of_ble_eq_true rfl⟩ ⟨Nat.le_of_ble_eq_true rfl, Nat.le_of_ble_eq_true rfl⟩ dX12_elementOf_51 rfl ?_
      rintro _ _ ⟨rfl, rfl⟩
      refine V.eSt (st' := [.int (bI (decide (0 < nI (cd1 (rng x (un τ 26 26) && rng y 6 && rng z 24)))))]) rfl ?_
      refine V.ei (y := bI (decide ((cd1 (rng x (un τ 26 26) && rng y 6 && rng z 24)) ≠ 0))) (congrArg bI (hold_d (cd1_le _))) ?_
      have hfo := hfo.set0 67 (nI (cd1 (rng x (un τ 26 26) && rng y 6 && rng z 24))) rfl
      have ht := ht.ws 67 (nI (cd1 (rng x (un τ 26 26) && rng y 6 && rng z 24))) rfl rfl
      have htb := ((fOut.rf [67] mb _).set0 67 (nI (cd1 (rng x (un τ 26 26) && rng y 6 && rng z 24))) rfl).tb rfl htb
      have h67 : mI (wI M mb 67 (nI (cd1 (rng x (un τ 26 26) && rng y 6 && rng z 24)))) mb 67 = nI (cd1 (rng x (un τ 26 26) && rng y 6 && rng z 24)) := up2_same _ _ _ _
      have hlb : LTB (wI M mb 67 (nI (cd1 (rng x (un τ 26 26) && rng y 6 && rng z 24)))) mb := hlb.ws 67 _
      refine r_if_eqB C (t := 61) dX12_elementOf_54 (by decide) (fun c54 => ?_) (fun c54 => ?_)
      · skip
        have c54d := of_decide_eq_false c54
        have hC : (cd1 (rng x (un τ 26 26) && rng y 6 && rng z 24)) = 0 := by have := c54d; omega
        obtain ⟨hxy, hz⟩ := Bool.and_eq_true_iff.mp (cd1_0 hC)
        obtain ⟨hx, hy⟩ := Bool.and_eq_true_iff.mp hxy
        obtain ⟨c, hc, e_x⟩ := rng_t hx
        obtain ⟨d, hd, e_y⟩ := rng_t hy
        obtain ⟨e, he, e_z⟩ := rng_t hz
        refine V.eLo (lo' := [(4, .int (bI (rng x (un τ 26 26) && rng y 6 && rng z 24))), (0, .ref mb), (1, .int (nI c)), (2, .int (nI d)), (3, .int (nI e))]) (by rw [e_x, e_y, e_z]) ?_
        refine r_aload_n C 1 dX12_elementOf_61 rfl rfl ?_
        refine r_iload_n C 3 dX12_elementOf_62 rfl rfl ?_
        refine r_callV C hgX (ci := 14) ml_X12_389 im_X12_slips se_X12_slips rfl rfl (show mK (wI M mb 67 (nI (cd1 (rng x (un τ 26 26) && rng y 6 && rng z 24)))) mb = 14 + 1 from hm.k) (c_X12_slips l hfl G (wI M mb 67 (nI (cd1 (rng x (un τ 26 26) && rng y 6 && rng z 24)))) mb τ hm ht hw d (by omega) (hlb)) rfl (Nat.le_of_ble_eq_true rfl) ⟨Nat.le_of_ble_eq_true rfl, Nat.le_of_ble_eq_true rfl⟩ ⟨Nat.le_of_ble_eq_true rfl, Nat.le_of_ble_eq_true rfl⟩ dX12_elementOf_63 rfl ?_
        rintro _ My1 ⟨rfl, hfo1, hbk1, hlb1⟩
        have hm := hfo1.ok hm
        have ht := hfo1.te rfl ht
        have htb := hfo1.tb rfl htb
        have h67 := (hfo1.s 67 rfl).trans h67
        have hfo := hfo.tr (hfo1.mono rfl)
        have hlb := hlb1
        have hbk := hbk1
        refine r_aload_n C 1 dX12_elementOf_66 rfl rfl ?_
        refine r_getR C (b := (ma mb 65)) fl_X12_173 rfl hm.k (hm.r 65 rfl) dX12_elementOf_67 ?_
        refine r_bipush C (v := nI 24) dX12_elementOf_70 (by decide) ?_
        refine r_iload_n C 2 dX12_elementOf_72 rfl rfl ?_
        refine r_imulN C dX12_elementOf_73 ?_
        refine r_iload_n C 4 dX12_elementOf_74 rfl rfl ?_
        refine r_iaddN C dX12_elementOf_75 ?_
        refine r_laloadN C (hm.i 65 21 rfl) (hm.n 65 144 rfl) (by omega) (by omega) dX12_elementOf_76 ?_
        refine V.el (y := elL τ d e c) ((hbk e he).2.2.1 c (by omega)) ?_
        exact r_lret C hr (⟨h67, hfo.mo, hlb, fun q => absurd hC q, fun _ => ⟨by rw [e_x, e_y, e_z, nI_clamp (n := c) (by omega), nI_clamp (n := d) (by omega), nI_clamp (n := e) (by omega)], ht, htb.cg rfl rfl (fun _ => ⟨rfl, rfl⟩) (fun _ => ⟨rfl, rfl⟩) (fun _ => ⟨rfl, rfl⟩) (fun _ => ⟨rfl, rfl⟩) (fun _ => ⟨rfl, rfl⟩) (fun _ => ⟨rfl, rfl⟩) (fun _ => ⟨rfl, rfl⟩) ⟩, by first | exact KD.i | exact KD.l | exact KD.n⟩) (by first | exact Nat.zero_le _ | decide) (by first | exact Nat.zero_le _ | decide) dX12_elementOf_77
      · skip
        have c54d := of_decide_eq_true c54
        have hC : (cd1 (rng x (un τ 26 26) && rng y 6 && rng z 24)) ≠ 0 := c54d
        refine r_ldc2 C (v := (-1)) kl_X12_275 dX12_elementOf_57 ?_
        exact r_lret C hr (⟨h67, hfo.mo, hlb, fun _ => ⟨ht, htb⟩, fun q => absurd q hC, by first | exact KD.i | exact KD.l | exact KD.n⟩) (by first | exact Nat.zero_le _ | decide) (by first | exact Nat.zero_le _ | decide) dX12_elementOf_60
    refine r_iload C 0 dX12_elementOf_41 rfl ?_
    refine r_if_eqB C (t := 50) dX12_elementOf_43 (by decide) (fun c43 => ?_) (fun c43 => ?_)
    · skip
      refine r_iconst C (v := nI 1) dX12_elementOf_50 (by decide) ?_
      refine V.ei (y := nI (cd1 (rng x (un τ 26 26) && rng y 6 && rng z 24))) (congrArg nI (by simp only [c43] <;> rfl)) ?_
      exact jn51
    · skip
      refine r_iconst C (v := nI 0) dX12_elementOf_46 (by decide) ?_
      refine r_goto C (t := 51) dX12_elementOf_47 (by decide) ?_
      refine V.ei (y := nI (cd1 (rng x (un τ 26 26) && rng y 6 && rng z 24))) (congrArg nI (by simp only [c43] <;> rfl)) ?_
      exact jn51
  refine r_aload_n C 0 dX12_elementOf_0 rfl rfl ?_
  refine r_iload_n C 1 dX12_elementOf_1 rfl rfl ?_
  refine r_i2l C dX12_elementOf_2 ?_
  refine r_lconst C (v := lN 0) dX12_elementOf_3 (by decide) ?_
  refine r_aload_n C 0 dX12_elementOf_4 rfl rfl ?_
  refine r_getI C fl_X12_316 rfl hm.k dX12_elementOf_5 ?_
  refine V.ei (y := nI (un τ 26 26)) ((ht.s 26 rfl).trans hw.ne.1) ?_
  refine r_iconst C (v := nI 1) dX12_elementOf_8 (by decide) ?_
  refine r_isub C dX12_elementOf_9 ?_
  refine r_i2l C dX12_elementOf_10 ?_
  refine r_callV C hgX (ci := 14) ml_X12_191 im_X12_in se_X12_in rfl rfl hm.k (c_X12_in l hfl G M mb x.toInt64 (lN 0) (((nI (un τ 26 26)) - (nI 1)).toInt64)) rfl (Nat.le_of_ble_eq_true rfl) ⟨Nat.le_of_ble_eq_true rfl, Nat.le_of_ble_eq_true rfl⟩ ⟨Nat.le_of_ble_eq_true rfl, Nat.le_of_ble_eq_true rfl⟩ dX12_elementOf_11 rfl ?_
  rintro _ _ ⟨rfl, rfl⟩
  refine V.eSt (st' := [.int (bI (decide ((lN 0) ≤ x.toInt64 ∧ x.toInt64 ≤ (((nI (un τ 26 26)) - (nI 1)).toInt64))))]) rfl ?_
  refine V.ei (y := bI (rng x (un τ 26 26))) (congrArg bI (rng_ct x _ (by omega))) ?_
  refine r_if_eqB C (t := 37) dX12_elementOf_14 (by decide) (fun c14 => ?_) (fun c14 => ?_)
  · skip
    refine r_iconst C (v := nI 0) dX12_elementOf_37 (by decide) ?_
    refine V.eSt (st' := [.int (bI false)]) rfl ?_
    refine V.ei (y := bI (rng x (un τ 26 26) && rng y 6 && rng z 24)) (congrArg bI (by simp only [c14] <;> rfl)) ?_
    exact jn38
  · skip
    refine r_aload_n C 0 dX12_elementOf_17 rfl rfl ?_
    refine r_iload_n C 2 dX12_elementOf_18 rfl rfl ?_
    refine r_callV C hgX (ci := 14) ml_X12_212 im_X12_isPerson se_X12_isPerson rfl rfl hm.k (c_X12_isPerson l hfl G M mb hm y) rfl (Nat.le_of_ble_eq_true rfl) ⟨Nat.le_of_ble_eq_true rfl, Nat.le_of_ble_eq_true rfl⟩ ⟨Nat.le_of_ble_eq_true rfl, Nat.le_of_ble_eq_true rfl⟩ dX12_elementOf_19 rfl ?_
    rintro _ _ ⟨rfl, rfl⟩
    refine V.eSt (st' := [.int (bI (rng y 6))]) rfl ?_
    refine r_if_eqB C (t := 37) dX12_elementOf_22 (by decide) (fun c22 => ?_) (fun c22 => ?_)
    · skip
      refine r_iconst C (v := nI 0) dX12_elementOf_37 (by decide) ?_
      refine V.eSt (st' := [.int (bI false)]) rfl ?_
      refine V.ei (y := bI (rng x (un τ 26 26) && rng y 6 && rng z 24)) (congrArg bI (by simp only [c14, c22] <;> rfl)) ?_
      exact jn38
    · skip
      refine r_aload_n C 0 dX12_elementOf_25 rfl rfl ?_
      refine r_iload_n C 3 dX12_elementOf_26 rfl rfl ?_
      refine r_callV C hgX (ci := 14) ml_X12_272 im_X12_isMonth se_X12_isMonth rfl rfl hm.k (c_X12_isMonth l hfl G M mb hm z) rfl (Nat.le_of_ble_eq_true rfl) ⟨Nat.le_of_ble_eq_true rfl, Nat.le_of_ble_eq_true rfl⟩ ⟨Nat.le_of_ble_eq_true rfl, Nat.le_of_ble_eq_true rfl⟩ dX12_elementOf_27 rfl ?_
      rintro _ _ ⟨rfl, rfl⟩
      refine V.eSt (st' := [.int (bI (rng z 24))]) rfl ?_
      refine r_if_eqB C (t := 37) dX12_elementOf_30 (by decide) (fun c30 => ?_) (fun c30 => ?_)
      · skip
        refine r_iconst C (v := nI 0) dX12_elementOf_37 (by decide) ?_
        refine V.eSt (st' := [.int (bI false)]) rfl ?_
        refine V.ei (y := bI (rng x (un τ 26 26) && rng y 6 && rng z 24)) (congrArg bI (by simp only [c14, c22, c30] <;> rfl)) ?_
        exact jn38
      · skip
        refine r_iconst C (v := nI 1) dX12_elementOf_33 (by decide) ?_
        refine r_goto C (t := 38) dX12_elementOf_34 (by decide) ?_
        refine V.eSt (st' := [.int (bI true)]) rfl ?_
        refine V.ei (y := bI (rng x (un τ 26 26) && rng y 6 && rng z 24)) (congrArg bI (by simp only [c14, c22, c30] <;> rfl)) ?_
        exact jn38
set_option maxHeartbeats 4000000 in
set_option maxRecDepth 100000 in
theorem c_X12_pensionOf (l : Launch) (hfl : l.flags = flags0) (G : gW) (M : Mem) (mb : Nat) (τ : Mu) (hm : MOK (mK M) (mN M) (mR M) mb) (ht : TE (mI M) (mL M) mb τ) (hw : WF τ) (htb : TEb (mI M) (mL M) mb τ) (hlb : LTB M mb) (x y : Int32) : CT l yX12_pensionOf cX12_pensionOf 9 (some .long) 6 0 0 164 G M [.ref mb, .int x, .int y] (fun v M' => PP mb M τ (cd1 (rng x 6 && rng y 24)) (τ) (some (.long (pfL τ x.toNatClampNeg y.toNatClampNeg))) v M') := by
  refine CT.of hfl rfl (Nat.le_of_ble_eq_true rfl) ?_
  intro pp ee ss mm ar bw mt cd C hgX hr hini
  have hnc := hw.nc.2
  have hsh := hw.sh.2
  have hnl := hw.nl.2
  have hne := hw.ne.2
  have hng := hw.ng.2
  have hop := hw.op.2
  have hnp := hw.np.2
  have ht0 := ht
  have hm0 := hm
  have htb0 := htb
  have hfo := fOut.rf [67, 16, 21, 28, 29, 55, 56, 57, 58, 59, 60, 61, 62, 63, 64, 65, 66] mb M
  refine V.eLo (lo' := [(0, .ref mb), (1, .int x), (2, .int y)]) rfl ?_
  refine r_aload_n C 0 dX12_pensionOf_0 rfl rfl ?_
  have jn22 : V pp l ee ({ frames := 6, cells := 0, slots := 0, locals := 164 } : Room) ss mm ar bw mt cd G (MQ bw (Ke G (fun v M' => PP mb M τ (cd1 (rng x 6 && rng y 24)) (τ) (some (.long (pfL τ x.toNatClampNeg y.toNatClampNeg))) v M')) ar ss 0 0 (gA G)) 9 M 0 0 22 [(0, .ref mb), (1, .int x), (2, .int y)] [.int (nI (cd1 (rng x 6 && rng y 24))), .ref mb] := by
    skip
    refine r_callV C hgX (ci := 14) ml_X12_227 im_X12_holds se_X12_holds rfl rfl hm.k (c_X12_holds l hfl G M mb hm (nI (cd1 (rng x 6 && rng y 24)))) rfl (Nat.le_of_ble_eq_true rfl) ⟨Nat.le_of_ble_eq_true rfl, Nat.le_of_ble_eq_true rfl⟩ ⟨Nat.le_of_ble_eq_true rfl, Nat.le_of_ble_eq_true rfl⟩ dX12_pensionOf_22 rfl ?_
    rintro _ _ ⟨rfl, rfl⟩
    refine V.eSt (st' := [.int (bI (decide (0 < nI (cd1 (rng x 6 && rng y 24)))))]) rfl ?_
    refine V.ei (y := bI (decide ((cd1 (rng x 6 && rng y 24)) ≠ 0))) (congrArg bI (hold_d (cd1_le _))) ?_
    have hfo := hfo.set0 67 (nI (cd1 (rng x 6 && rng y 24))) rfl
    have ht := ht.ws 67 (nI (cd1 (rng x 6 && rng y 24))) rfl rfl
    have htb := ((fOut.rf [67] mb _).set0 67 (nI (cd1 (rng x 6 && rng y 24))) rfl).tb rfl htb
    have h67 : mI (wI M mb 67 (nI (cd1 (rng x 6 && rng y 24)))) mb 67 = nI (cd1 (rng x 6 && rng y 24)) := up2_same _ _ _ _
    have hlb : LTB (wI M mb 67 (nI (cd1 (rng x 6 && rng y 24)))) mb := hlb.ws 67 _
    refine r_if_eqB C (t := 32) dX12_pensionOf_25 (by decide) (fun c25 => ?_) (fun c25 => ?_)
    · skip
      have c25d := of_decide_eq_false c25
      have hC : (cd1 (rng x 6 && rng y 24)) = 0 := by have := c25d; omega
      obtain ⟨hx, hy⟩ := Bool.and_eq_true_iff.mp (cd1_0 hC)
      obtain ⟨c, hc, e_x⟩ := rng_t hx
      obtain ⟨d, hd, e_y⟩ := rng_t hy
      refine V.eLo (lo' := [(0, .ref mb), (1, .int (nI c)), (2, .int (nI d))]) (by rw [e_x, e_y]) ?_
      refine r_aload_n C 0 dX12_pensionOf_32 rfl rfl ?_
      refine r_iload_n C 1 dX12_pensionOf_33 rfl rfl ?_
      refine r_callV C hgX (ci := 14) ml_X12_389 im_X12_slips se_X12_slips rfl rfl (show mK (wI M mb 67 (nI (cd1 (rng x 6 && rng y 24)))) mb = 14 + 1 from hm.k) (c_X12_slips l hfl G (wI M mb 67 (nI (cd1 (rng x 6 && rng y 24)))) mb τ hm ht hw c (by omega) (hlb)) rfl (Nat.le_of_ble_eq_true rfl) ⟨Nat.le_of_ble_eq_true rfl, Nat.le_of_ble_eq_true rfl⟩ ⟨Nat.le_of_ble_eq_true rfl, Nat.le_of_ble_eq_true rfl⟩ dX12_pensionOf_34 rfl ?_
      rintro _ My1 ⟨rfl, hfo1, hbk1, hlb1⟩
      have hm := hfo1.ok hm
      have ht := hfo1.te rfl ht
      have htb := hfo1.tb rfl htb
      have h67 := (hfo1.s 67 rfl).trans h67
      have hfo := hfo.tr (hfo1.mono rfl)
      have hlb := hlb1
      have hbk := hbk1
      refine r_lconst C (v := lN 0) dX12_pensionOf_37 (by decide) ?_
      refine r_lstore_n C (lo' := [(3, .long (lN 0)), (0, .ref mb), (1, .int (nI c)), (2, .int (nI d))]) dX12_pensionOf_38 rfl (by decide) rfl ?_
      refine r_lconst C (v := lN 0) dX12_pensionOf_39 (by decide) ?_
      refine r_lstore C (lo' := [(5, .long (lN 0)), (3, .long (lN 0)), (0, .ref mb), (1, .int (nI c)), (2, .int (nI d))]) dX12_pensionOf_40 (by decide) rfl ?_
      refine r_iconst C (v := nI 0) dX12_pensionOf_42 (by decide) ?_
      refine r_istore C (lo' := [(7, .int (nI 0)), (5, .long (lN 0)), (3, .long (lN 0)), (0, .ref mb), (1, .int (nI c)), (2, .int (nI d))]) dX12_pensionOf_43 (by decide) rfl ?_
      refine r_iconst C (v := nI 0) dX12_pensionOf_45 (by decide) ?_
      refine r_istore C (lo' := [(8, .int (nI 0)), (7, .int (nI 0)), (5, .long (lN 0)), (3, .long (lN 0)), (0, .ref mb), (1, .int (nI c)), (2, .int (nI d))]) dX12_pensionOf_46 (by decide) rfl ?_
      have lp48 : ∀ (k48 : Nat) (k : Nat) (hk : k ≤ d + 1), d + 2 - k < k48 → V pp l ee ({ frames := 6, cells := 0, slots := 0, locals := 164 } : Room) ss mm ar bw mt cd G (MQ bw (Ke G (fun v M' => PP mb M τ (cd1 (rng x 6 && rng y 24)) (τ) (some (.long (pfL τ x.toNatClampNeg y.toNatClampNeg))) v M')) ar ss 0 0 (gA G)) 9 My1 0 0 48 [(0, .ref mb), (2, .int (nI d)), (3, .long (sumL (pnL τ c) k)), (5, .long (sumL (mtL τ c) k)), (7, .int (nI (vsN τ c k))), (8, .int (nI k))] [] := by
        intro k48
        induction k48 with
        | zero => intro k hk hz48; exact absurd hz48 (Nat.not_lt_zero _)
        | succ k48 ih48 =>
          intro k hk hz48
          have hvs := vsN_le τ c k
          refine r_iload C 5 dX12_pensionOf_48 rfl ?_
          refine r_iload_n C 1 dX12_pensionOf_50 rfl rfl ?_
          refine r_icmp_gtN C (t := 104) (by omega) (by omega) dX12_pensionOf_51 (by decide) (fun c51 => ?_) (fun c51 => ?_)
          · skip
            have ek : k = d + 1 := by omega
            subst ek
            refine r_lload_n C 2 dX12_pensionOf_104 rfl rfl ?_
            have jn118 : V pp l ee ({ frames := 6, cells := 0, slots := 0, locals := 164 } : Room) ss mm ar bw mt cd G (MQ bw (Ke G (fun v M' => PP mb M τ (cd1 (rng x 6 && rng y 24)) (τ) (some (.long (pfL τ x.toNatClampNeg y.toNatClampNeg))) v M')) ar ss 0 0 (gA G)) 9 My1 0 0 118 [(0, .ref mb), (2, .int (nI d)), (3, .long (sumL (pnL τ c) (d + 1))), (5, .long (sumL (mtL τ c) (d + 1))), (7, .int (nI (vsN τ c (d + 1)))), (8, .int (nI (d + 1)))] [.long (if 6 ≤ vsN τ c (d + 1) then sumL (mtL τ c) (d + 1) else lN 0), .long (sumL (pnL τ c) (d + 1))] := by
              skip
              refine r_ladd C dX12_pensionOf_118 ?_
              exact r_lret C hr (⟨h67, hfo.mo, hlb, fun q => absurd hC q, fun _ => ⟨by rw [e_x, e_y, nI_clamp (n := c) (by omega), nI_clamp (n := d) (by omega)]; rfl, ht, htb.cg rfl rfl (fun _ => ⟨rfl, rfl⟩) (fun _ => ⟨rfl, rfl⟩) (fun _ => ⟨rfl, rfl⟩) (fun _ => ⟨rfl, rfl⟩) (fun _ => ⟨rfl, rfl⟩) (fun _ => ⟨rfl, rfl⟩) (fun _ => ⟨rfl, rfl⟩) ⟩, by first | exact KD.i | exact KD.l | exact KD.n⟩) (by first | exact Nat.zero_le _ | decide) (by first | exact Nat.zero_le _ | decide) dX12_pensionOf_119
            refine r_iload C 4 dX12_pensionOf_105 rfl ?_
            refine r_bipush C (v := nI 6) dX12_pensionOf_107 (by decide) ?_
            refine r_icmp_ltN C (t := 117) (by omega) (by omega) dX12_pensionOf_109 (by decide) (fun c109 => ?_) (fun c109 => ?_)
            · skip
              refine r_lconst C (v := lN 0) dX12_pensionOf_117 (by decide) ?_
              refine V.el (y := if 6 ≤ vsN τ c (d + 1) then sumL (mtL τ c) (d + 1) else lN 0) (by rw [if_neg (by omega)]) ?_
              exact jn118
            · skip
              refine r_lload C 3 dX12_pensionOf_112 rfl ?_
              refine r_goto C (t := 118) dX12_pensionOf_114 (by decide) ?_
              refine V.el (y := if 6 ≤ vsN τ c (d + 1) then sumL (mtL τ c) (d + 1) else lN 0) (by rw [if_pos (by omega)]) ?_
              exact jn118
          · skip
            refine r_lload_n C 2 dX12_pensionOf_54 rfl rfl ?_
            refine r_aload_n C 0 dX12_pensionOf_55 rfl rfl ?_
            refine r_getR C (b := (ma mb 60)) fl_X12_158 rfl hm.k (hm.r 60 rfl) dX12_pensionOf_56 ?_
            refine r_iload C 5 dX12_pensionOf_59 rfl ?_
            refine r_laloadN C (hm.i 60 21 rfl) (hm.n 60 24 rfl) (by omega) (by omega) dX12_pensionOf_61 ?_
            refine V.el (y := pnL τ c k) ((hbk k (by omega)).2.1.1) ?_
            refine r_ladd C dX12_pensionOf_62 ?_
            refine r_lstore_n C (lo' := [(3, .long ((sumL (pnL τ c) k) + (pnL τ c k))), (0, .ref mb), (2, .int (nI d)), (5, .long (sumL (mtL τ c) k)), (7, .int (nI (vsN τ c k))), (8, .int (nI k))]) dX12_pensionOf_63 rfl (by decide) rfl ?_
            refine r_lload C 3 dX12_pensionOf_64 rfl ?_
            refine r_aload_n C 1 dX12_pensionOf_66 rfl rfl ?_
            refine r_getR C (b := (ma mb 61)) fl_X12_161 rfl hm.k (hm.r 61 rfl) dX12_pensionOf_67 ?_
            refine r_iload C 5 dX12_pensionOf_70 rfl ?_
            refine r_laloadN C (hm.i 61 21 rfl) (hm.n 61 24 rfl) (by omega) (by omega) dX12_pensionOf_72 ?_
            refine V.el (y := mtL τ c k) ((hbk k (by omega)).2.1.2.1) ?_
            refine r_ladd C dX12_pensionOf_73 ?_
            refine r_lstore C (lo' := [(5, .long ((sumL (mtL τ c) k) + (mtL τ c k))), (3, .long ((sumL (pnL τ c) k) + (pnL τ c k))), (0, .ref mb), (2, .int (nI d)), (7, .int (nI (vsN τ c k))), (8, .int (nI k))]) dX12_pensionOf_74 (by decide) rfl ?_
            refine r_iload C 4 dX12_pensionOf_76 rfl ?_
            have jn95 : V pp l ee ({ frames := 6, cells := 0, slots := 0, locals := 164 } : Room) ss mm ar bw mt cd G (MQ bw (Ke G (fun v M' => PP mb M τ (cd1 (rng x 6 && rng y 24)) (τ) (some (.long (pfL τ x.toNatClampNeg y.toNatClampNeg))) v M')) ar ss 0 0 (gA G)) 9 My1 0 0 95 [(5, .long ((sumL (mtL τ c) k) + (mtL τ c k))), (3, .long ((sumL (pnL τ c) k) + (pnL τ c k))), (0, .ref mb), (2, .int (nI d)), (7, .int (nI (vsN τ c k))), (8, .int (nI k))] [.int (nI (if lN 0 < pnL τ c k then 1 else 0)), .int (nI (vsN τ c k))] := by
              skip
              refine r_iaddN C dX12_pensionOf_95 ?_
              refine r_istore C (lo' := [(7, .int (nI (vsN τ c k + (if lN 0 < pnL τ c k then 1 else 0)))), (5, .long ((sumL (mtL τ c) k) + (mtL τ c k))), (3, .long ((sumL (pnL τ c) k) + (pnL τ c k))), (0, .ref mb), (2, .int (nI d)), (8, .int (nI k))]) dX12_pensionOf_96 (by decide) rfl ?_
              refine r_iinc C (v := nI (k + 1)) (lo' := [(8, .int (nI (k + 1))), (7, .int (nI (vsN τ c k + (if lN 0 < pnL τ c k then 1 else 0)))), (5, .long ((sumL (mtL τ c) k) + (mtL τ c k))), (3, .long ((sumL (pnL τ c) k) + (pnL τ c k))), (0, .ref mb), (2, .int (nI d))]) 5 dX12_pensionOf_98 rfl (nI_addI k 1) (by decide) rfl ?_
              refine r_goto C (t := 48) dX12_pensionOf_101 (by decide) ?_
              have jb3 : ((sumL (pnL τ c) k) + (pnL τ c k)) = (sumL (pnL τ c) (k + 1)) := by rfl
              refine V.eLo (lo' := [(8, .int (nI (k + 1))), (7, .int (nI (vsN τ c k + (if lN 0 < pnL τ c k then 1 else 0)))), (5, .long ((sumL (mtL τ c) k) + (mtL τ c k))), (3, .long (sumL (pnL τ c) (k + 1))), (0, .ref mb), (2, .int (nI d))]) (congrArg (fun z_ => ([(8, .int (nI (k + 1))), (7, .int (nI (vsN τ c k + (if lN 0 < pnL τ c k then 1 else 0)))), (5, .long ((sumL (mtL τ c) k) + (mtL τ c k))), (3, .long z_), (0, .ref mb), (2, .int (nI d))] : List (Nat × Value))) jb3) ?_
              have jb5 : ((sumL (mtL τ c) k) + (mtL τ c k)) = (sumL (mtL τ c) (k + 1)) := by rfl
              refine V.eLo (lo' := [(8, .int (nI (k + 1))), (7, .int (nI (vsN τ c k + (if lN 0 < pnL τ c k then 1 else 0)))), (5, .long (sumL (mtL τ c) (k + 1))), (3, .long (sumL (pnL τ c) (k + 1))), (0, .ref mb), (2, .int (nI d))]) (congrArg (fun z_ => ([(8, .int (nI (k + 1))), (7, .int (nI (vsN τ c k + (if lN 0 < pnL τ c k then 1 else 0)))), (5, .long z_), (3, .long (sumL (pnL τ c) (k + 1))), (0, .ref mb), (2, .int (nI d))] : List (Nat × Value))) jb5) ?_
              have jb7 : (vsN τ c k + (if lN 0 < pnL τ c k then 1 else 0)) = (vsN τ c (k + 1)) := by unfold vsN; rw [sumN_1]
              refine V.eLo (lo' := [(8, .int (nI (k + 1))), (7, .int (nI (vsN τ c (k + 1)))), (5, .long (sumL (mtL τ c) (k + 1))), (3, .long (sumL (pnL τ c) (k + 1))), (0, .ref mb), (2, .int (nI d))]) (congrArg (fun z_ => ([(8, .int (nI (k + 1))), (7, .int (nI z_)), (5, .long (sumL (mtL τ c) (k + 1))), (3, .long (sumL (pnL τ c) (k + 1))), (0, .ref mb), (2, .int (nI d))] : List (Nat × Value))) jb7) ?_
              refine V.sub [4, 5, 3, 2, 1, 0] (lo' := [(0, .ref mb), (2, .int (nI d)), (3, .long (sumL (pnL τ c) (k + 1))), (5, .long (sumL (mtL τ c) (k + 1))), (7, .int (nI (vsN τ c (k + 1)))), (8, .int (nI (k + 1)))]) rfl ?_
              exact ih48 (k + 1) (by omega) (by omega)
            refine r_aload_n C 2 dX12_pensionOf_78 rfl rfl ?_
            refine r_getR C (b := (ma mb 60)) fl_X12_158 rfl hm.k (hm.r 60 rfl) dX12_pensionOf_79 ?_
            refine r_iload C 5 dX12_pensionOf_82 rfl ?_
            refine r_laloadN C (hm.i 60 21 rfl) (hm.n 60 24 rfl) (by omega) (by omega) dX12_pensionOf_84 ?_
            refine V.el (y := pnL τ c k) ((hbk k (by omega)).2.1.1) ?_
            refine r_lconst C (v := lN 0) dX12_pensionOf_85 (by decide) ?_
            refine r_lcmp_le C (t := 94) dX12_pensionOf_86 dX12_pensionOf_87 (by decide) (fun c87 => ?_) (fun c87 => ?_)
            · skip
              refine r_iconst C (v := nI 0) dX12_pensionOf_94 (by decide) ?_
              refine V.ei (y := nI (if lN 0 < pnL τ c k then 1 else 0)) (congrArg nI (by rw [if_neg (Int64.not_lt.mpr c87)])) ?_
              exact jn95
            · skip
              refine r_iconst C (v := nI 1) dX12_pensionOf_90 (by decide) ?_
              refine r_goto C (t := 95) dX12_pensionOf_91 (by decide) ?_
              refine V.ei (y := nI (if lN 0 < pnL τ c k then 1 else 0)) (congrArg nI (by rw [if_pos (Int64.not_le.mp c87)])) ?_
              exact jn95
      refine V.sub [4, 6, 3, 2, 1, 0] (lo' := [(0, .ref mb), (2, .int (nI d)), (3, .long (lN 0)), (5, .long (lN 0)), (7, .int (nI 0)), (8, .int (nI 0))]) rfl ?_
      exact lp48 _ 0 (Nat.zero_le _) (Nat.lt_succ_self _)
    · skip
      have c25d := of_decide_eq_true c25
      have hC : (cd1 (rng x 6 && rng y 24)) ≠ 0 := c25d
      refine r_ldc2 C (v := (-1)) kl_X12_275 dX12_pensionOf_28 ?_
      exact r_lret C hr (⟨h67, hfo.mo, hlb, fun _ => ⟨ht, htb⟩, fun q => absurd q hC, by first | exact KD.i | exact KD.l | exact KD.n⟩) (by first | exact Nat.zero_le _ | decide) (by first | exact Nat.zero_le _ | decide) dX12_pensionOf_31
  refine r_aload_n C 0 dX12_pensionOf_1 rfl rfl ?_
  refine r_iload_n C 1 dX12_pensionOf_2 rfl rfl ?_
  refine r_callV C hgX (ci := 14) ml_X12_212 im_X12_isPerson se_X12_isPerson rfl rfl hm.k (c_X12_isPerson l hfl G M mb hm x) rfl (Nat.le_of_ble_eq_true rfl) ⟨Nat.le_of_ble_eq_true rfl, Nat.le_of_ble_eq_true rfl⟩ ⟨Nat.le_of_ble_eq_true rfl, Nat.le_of_ble_eq_true rfl⟩ dX12_pensionOf_3 rfl ?_
  rintro _ _ ⟨rfl, rfl⟩
  refine V.eSt (st' := [.int (bI (rng x 6)), .ref mb]) rfl ?_
  refine r_if_eqB C (t := 21) dX12_pensionOf_6 (by decide) (fun c6 => ?_) (fun c6 => ?_)
  · skip
    refine r_iconst C (v := nI 1) dX12_pensionOf_21 (by decide) ?_
    refine V.ei (y := nI (cd1 (rng x 6 && rng y 24))) (congrArg nI (by simp only [c6] <;> rfl)) ?_
    exact jn22
  · skip
    refine r_aload_n C 0 dX12_pensionOf_9 rfl rfl ?_
    refine r_iload_n C 2 dX12_pensionOf_10 rfl rfl ?_
    refine r_callV C hgX (ci := 14) ml_X12_272 im_X12_isMonth se_X12_isMonth rfl rfl hm.k (c_X12_isMonth l hfl G M mb hm y) rfl (Nat.le_of_ble_eq_true rfl) ⟨Nat.le_of_ble_eq_true rfl, Nat.le_of_ble_eq_true rfl⟩ ⟨Nat.le_of_ble_eq_true rfl, Nat.le_of_ble_eq_true rfl⟩ dX12_pensionOf_11 rfl ?_
    rintro _ _ ⟨rfl, rfl⟩
    refine V.eSt (st' := [.int (bI (rng y 24)), .ref mb]) rfl ?_
    refine r_if_eqB C (t := 21) dX12_pensionOf_14 (by decide) (fun c14 => ?_) (fun c14 => ?_)
    · skip
      refine r_iconst C (v := nI 1) dX12_pensionOf_21 (by decide) ?_
      refine V.ei (y := nI (cd1 (rng x 6 && rng y 24))) (congrArg nI (by simp only [c6, c14] <;> rfl)) ?_
      exact jn22
    · skip
      refine r_iconst C (v := nI 0) dX12_pensionOf_17 (by decide) ?_
      refine r_goto C (t := 22) dX12_pensionOf_18 (by decide) ?_
      refine V.ei (y := nI (cd1 (rng x 6 && rng y 24))) (congrArg nI (by simp only [c6, c14] <;> rfl)) ?_
      exact jn22
