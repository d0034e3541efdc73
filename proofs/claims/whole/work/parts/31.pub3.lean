set_option maxHeartbeats 4000000 in
set_option maxRecDepth 100000 in
theorem c_X12_bonus (l : Launch) (hfl : l.flags = flags0) (G : gW) (M : Mem) (mb : Nat) (τ : Mu) (hm : MOK (mK M) (mN M) (mR M) mb) (ht : TE (mI M) (mL M) mb τ) (hw : WF τ) (htb : TEb (mI M) (mL M) mb τ) (hlb : LTB M mb) (x y z t : Int32) : CT l yX12_bonus cX12_bonus 8 (some .int) 2 0 0 47 G M [.ref mb, .int x, .int y, .int z, .int t] (fun v M' => PP mb M τ (cd2 (rng x 6 && rng y 24 && rng z 3) (inB t (-10000000) (lN 10000000))) (sI τ 30 (72 * x.toNatClampNeg + 3 * y.toNatClampNeg + z.toNatClampNeg) t) (some (.int (τ.1 30 (72 * x.toNatClampNeg + 3 * y.toNatClampNeg + z.toNatClampNeg)))) v M') := by
  refine CT.of hfl rfl (Nat.le_of_ble_eq_true rfl) ?_
  intro pp ee ss mm ar bw mt cd C hgX hr hini
  have hnc := hw.nc.2
  have hsh := hw.sh.2
  have hnl := hw.nl.2
  have hne := hw.ne.2
  have hng := hw.ng.2
  have hop := hw.op.2
  have hnp := hw.np.2
  have ht0 := ht
  have hm0 := hm
  have htb0 := htb
  have hfo := fOut.rf [67, 30] mb M
  refine V.eLo (lo' := [(0, .ref mb), (1, .int x), (2, .int y), (3, .int z), (4, .int t)]) rfl ?_
  have jn29 : V pp l ee ({ frames := 2, cells := 0, slots := 0, locals := 47 } : Room) ss mm ar bw mt cd G (MQ bw (Ke G (fun v M' => PP mb M τ (cd2 (rng x 6 && rng y 24 && rng z 3) (inB t (-10000000) (lN 10000000))) (sI τ 30 (72 * x.toNatClampNeg + 3 * y.toNatClampNeg + z.toNatClampNeg) t) (some (.int (τ.1 30 (72 * x.toNatClampNeg + 3 * y.toNatClampNeg + z.toNatClampNeg)))) v M')) ar ss 0 0 (gA G)) 8 M 0 0 29 [(0, .ref mb), (1, .int x), (2, .int y), (3, .int z), (4, .int t)] [.int (bI (rng x 6 && rng y 24 && rng z 3))] := by
    skip
    refine r_istore C (lo' := [(5, .int (bI (rng x 6 && rng y 24 && rng z 3))), (0, .ref mb), (1, .int x), (2, .int y), (3, .int z), (4, .int t)]) dX12_bonus_29 (by decide) rfl ?_
    refine r_aload_n C 1 dX12_bonus_31 rfl rfl ?_
    have jn62 : V pp l ee ({ frames := 2, cells := 0, slots := 0, locals := 47 } : Room) ss mm ar bw mt cd G (MQ bw (Ke G (fun v M' => PP mb M τ (cd2 (rng x 6 && rng y 24 && rng z 3) (inB t (-10000000) (lN 10000000))) (sI τ 30 (72 * x.toNatClampNeg + 3 * y.toNatClampNeg + z.toNatClampNeg) t) (some (.int (τ.1 30 (72 * x.toNatClampNeg + 3 * y.toNatClampNeg + z.toNatClampNeg)))) v M')) ar ss 0 0 (gA G)) 8 M 0 0 62 [(5, .int (bI (rng x 6 && rng y 24 && rng z 3))), (0, .ref mb), (1, .int x), (2, .int y), (3, .int z), (4, .int t)] [.int (nI (cd2 (rng x 6 && rng y 24 && rng z 3) (inB t (-10000000) (lN 10000000)))), .ref mb] := by
      skip
      refine r_callV C hgX (ci := 14) ml_X12_227 im_X12_holds se_X12_holds rfl rfl hm.k (c_X12_holds l hfl G M mb hm (nI (cd2 (rng x 6 && rng y 24 && rng z 3) (inB t (-10000000) (lN 10000000))))) rfl (Nat.le_of_ble_eq_true rfl) ⟨Nat.le_of_ble_eq_true rfl, Nat.le_of_ble_eq_true rfl⟩ ⟨Nat.le_of_ble_eq_true rfl, Nat.le_of_ble_eq_true rfl⟩ dX12_bonus_62 rfl ?_
      rintro _ _ ⟨rfl, rfl⟩
      refine V.eSt (st' := [.int (bI (decide (0 < nI (cd2 (rng x 6 && rng y 24 && rng z 3) (inB t (-10000000) (lN 10000000))))))]) rfl ?_
      refine V.ei (y := bI (decide ((cd2 (rng x 6 && rng y 24 && rng z 3) (inB t (-10000000) (lN 10000000))) ≠ 0))) (congrArg bI (hold_d (cd2_le _ _))) ?_
      have hfo := hfo.set0 67 (nI (cd2 (rng x 6 && rng y 24 && rng z 3) (inB t (-10000000) (lN 10000000)))) rfl
      have ht := ht.ws 67 (nI (cd2 (rng x 6 && rng y 24 && rng z 3) (inB t (-10000000) (lN 10000000)))) rfl rfl
      have htb := ((fOut.rf [67] mb _).set0 67 (nI (cd2 (rng x 6 && rng y 24 && rng z 3) (inB t (-10000000) (lN 10000000)))) rfl).tb rfl htb
      have h67 : mI (wI M mb 67 (nI (cd2 (rng x 6 && rng y 24 && rng z 3) (inB t (-10000000) (lN 10000000))))) mb 67 = nI (cd2 (rng x 6 && rng y 24 && rng z 3) (inB t (-10000000) (lN 10000000))) := up2_same _ _ _ _
      have hlb : LTB (wI M mb 67 (nI (cd2 (rng x 6 && rng y 24 && rng z 3) (inB t (-10000000) (lN 10000000))))) mb := hlb.ws 67 _
      refine r_if_eqB C (t := 70) dX12_bonus_65 (by decide) (fun c65 => ?_) (fun c65 => ?_)
      · skip
        have c65d := of_decide_eq_false c65
        have hC : (cd2 (rng x 6 && rng y 24 && rng z 3) (inB t (-10000000) (lN 10000000))) = 0 := by have := c65d; omega
        obtain ⟨h1, h2⟩ := cd2_0 hC
        obtain ⟨hxy, hz⟩ := Bool.and_eq_true_iff.mp h1
        obtain ⟨hx, hy⟩ := Bool.and_eq_true_iff.mp hxy
        obtain ⟨c, hc, e_x⟩ := rng_t hx
        obtain ⟨d, hd, e_y⟩ := rng_t hy
        obtain ⟨e, he, e_z⟩ := rng_t hz
        refine V.eLo (lo' := [(5, .int (bI (rng x 6 && rng y 24 && rng z 3))), (0, .ref mb), (1, .int (nI c)), (2, .int (nI d)), (3, .int (nI e)), (4, .int t)]) (by rw [e_x, e_y, e_z]) ?_
        refine r_bipush C (v := nI 72) dX12_bonus_70 (by decide) ?_
        refine r_iload_n C 2 dX12_bonus_72 rfl rfl ?_
        refine r_imulN C dX12_bonus_73 ?_
        refine r_iconst C (v := nI 3) dX12_bonus_74 (by decide) ?_
        refine r_iload_n C 3 dX12_bonus_75 rfl rfl ?_
        refine r_imulN C dX12_bonus_76 ?_
        refine r_iaddN C dX12_bonus_77 ?_
        refine r_iload_n C 4 dX12_bonus_78 rfl rfl ?_
        refine r_iaddN C dX12_bonus_79 ?_
        refine r_istore C (lo' := [(6, .int (nI (72 * c + 3 * d + e))), (5, .int (bI (rng x 6 && rng y 24 && rng z 3))), (0, .ref mb), (1, .int (nI c)), (2, .int (nI d)), (3, .int (nI e)), (4, .int t)]) dX12_bonus_80 (by decide) rfl ?_
        refine r_aload_n C 2 dX12_bonus_82 rfl rfl ?_
        refine r_getR C (b := (ma mb 30)) fl_X12_77 rfl hm.k (hm.r 30 rfl) dX12_bonus_83 ?_
        refine r_iload C 0 dX12_bonus_86 rfl ?_
        refine r_ialoadN C (hm.i 30 20 rfl) (hm.n 30 432 rfl) (by omega) (by omega) dX12_bonus_88 ?_
        refine V.ei (y := τ.1 30 (72 * c + 3 * d + e)) (ht.i 30 rfl _) ?_
        refine r_istore C (lo' := [(7, .int (τ.1 30 (72 * c + 3 * d + e))), (6, .int (nI (72 * c + 3 * d + e))), (5, .int (bI (rng x 6 && rng y 24 && rng z 3))), (0, .ref mb), (1, .int (nI c)), (2, .int (nI d)), (3, .int (nI e)), (4, .int t)]) dX12_bonus_89 (by decide) rfl ?_
        refine r_aload_n C 3 dX12_bonus_91 rfl rfl ?_
        refine r_getR C (b := (ma mb 30)) fl_X12_77 rfl hm.k (hm.r 30 rfl) dX12_bonus_92 ?_
        refine r_iload C 1 dX12_bonus_95 rfl ?_
        refine r_iload C 7 dX12_bonus_97 rfl ?_
        refine r_iastoreN C (hm.i 30 20 rfl) (hm.n 30 432 rfl) (by omega) (by omega) dX12_bonus_99 ?_
        have htb := ((fOut.rf [30] mb _).setI 30 (72 * c + 3 * d + e) t rfl).tb rfl htb
        have hlb : LTB (wI (wI M mb 67 (nI (cd2 (rng x 6 && rng y 24 && rng z 3) (inB t (-10000000) (lN 10000000))))) (ma mb 30) (72 * c + 3 * d + e) t) mb := hlb.wi 30 _ _ rfl
        have hfo := hfo.setI 30 (72 * c + 3 * d + e) t rfl
        have h67 : mI (wI (wI M mb 67 (nI (cd2 (rng x 6 && rng y 24 && rng z 3) (inB t (-10000000) (lN 10000000))))) (ma mb 30) (72 * c + 3 * d + e) t) mb 67 = _ := (up2_a _ _ (ma_0 rfl).symm).trans h67
        have ht := ht.ui 30 (72 * c + 3 * d + e) t rfl
        refine r_iload C 0 dX12_bonus_100 rfl ?_
        exact r_iret C hr (⟨h67, hfo.mo, hlb, fun q => absurd hC q, fun _ => ⟨by rw [e_x, e_y, e_z, nI_clamp (n := c) (by omega), nI_clamp (n := d) (by omega), nI_clamp (n := e) (by omega)], by rw [← (show sI τ 30 (72 * c + 3 * d + e) t = sI τ 30 (72 * x.toNatClampNeg + 3 * y.toNatClampNeg + z.toNatClampNeg) t by rw [e_x, e_y, e_z, nI_clamp (n := c) (by omega), nI_clamp (n := d) (by omega), nI_clamp (n := e) (by omega)])]; exact ht, htb.cg rfl rfl (fun _ => ⟨rfl, rfl⟩) (fun _ => ⟨rfl, rfl⟩) (fun _ => ⟨rfl, rfl⟩) (fun _ => ⟨rfl, rfl⟩) (fun _ => ⟨rfl, rfl⟩) (fun _ => ⟨rfl, rfl⟩) (fun _ => ⟨rfl, rfl⟩) ⟩, by first | exact KD.i | exact KD.l | exact KD.n⟩) (by first | exact Nat.zero_le _ | decide) (by first | exact Nat.zero_le _ | decide) dX12_bonus_102
      · skip
        have c65d := of_decide_eq_true c65
        have hC : (cd2 (rng x 6 && rng y 24 && rng z 3) (inB t (-10000000) (lN 10000000))) ≠ 0 := c65d
        refine r_iconst C (v := (-1)) dX12_bonus_68 (by decide) ?_
        exact r_iret C hr (⟨h67, hfo.mo, hlb, fun _ => ⟨ht, htb⟩, fun q => absurd q hC, by first | exact KD.i | exact KD.l | exact KD.n⟩) (by first | exact Nat.zero_le _ | decide) (by first | exact Nat.zero_le _ | decide) dX12_bonus_69
    refine r_iload C 0 dX12_bonus_32 rfl ?_
    refine r_if_neB C (t := 41) dX12_bonus_34 (by decide) (fun c34 => ?_) (fun c34 => ?_)
    · skip
      refine r_aload_n C 1 dX12_bonus_41 rfl rfl ?_
      refine r_iload C 5 dX12_bonus_42 rfl ?_
      refine r_i2l C dX12_bonus_44 ?_
      refine r_ldc2 C (v := (-10000000)) kl_X12_341 dX12_bonus_45 ?_
      refine r_ldc2 C (v := 10000000) kl_X12_343 dX12_bonus_48 ?_
      refine V.el (y := lN 10000000) (by decide) ?_
      refine r_callV C hgX (ci := 14) ml_X12_191 im_X12_in se_X12_in rfl rfl hm.k (c_X12_in l hfl G M mb t.toInt64 (-10000000) (lN 10000000)) rfl (Nat.le_of_ble_eq_true rfl) ⟨Nat.le_of_ble_eq_true rfl, Nat.le_of_ble_eq_true rfl⟩ ⟨Nat.le_of_ble_eq_true rfl, Nat.le_of_ble_eq_true rfl⟩ dX12_bonus_51 rfl ?_
      rintro _ _ ⟨rfl, rfl⟩
      refine V.eSt (st' := [.int (bI (decide ((-10000000) ≤ t.toInt64 ∧ t.toInt64 ≤ (lN 10000000)))), .ref mb]) rfl ?_
      refine V.ei (y := bI (inB t (-10000000) (lN 10000000))) rfl ?_
      refine r_if_eqB C (t := 61) dX12_bonus_54 (by decide) (fun c54 => ?_) (fun c54 => ?_)
      · skip
        refine r_iconst C (v := nI 2) dX12_bonus_61 (by decide) ?_
        refine V.ei (y := nI (cd2 (rng x 6 && rng y 24 && rng z 3) (inB t (-10000000) (lN 10000000)))) (congrArg nI (by simp only [c34, c54] <;> rfl)) ?_
        exact jn62
      · skip
        refine r_iconst C (v := nI 0) dX12_bonus_57 (by decide) ?_
        refine r_goto C (t := 62) dX12_bonus_58 (by decide) ?_
        refine V.ei (y := nI (cd2 (rng x 6 && rng y 24 && rng z 3) (inB t (-10000000) (lN 10000000)))) (congrArg nI (by simp only [c34, c54] <;> rfl)) ?_
        exact jn62
    · skip
      refine r_iconst C (v := nI 1) dX12_bonus_37 (by decide) ?_
      refine r_goto C (t := 62) dX12_bonus_38 (by decide) ?_
      refine V.ei (y := nI (cd2 (rng x 6 && rng y 24 && rng z 3) (inB t (-10000000) (lN 10000000)))) (congrArg nI (by simp only [c34] <;> rfl)) ?_
      exact jn62
  refine r_aload_n C 0 dX12_bonus_0 rfl rfl ?_
  refine r_iload_n C 1 dX12_bonus_1 rfl rfl ?_
  refine r_callV C hgX (ci := 14) ml_X12_212 im_X12_isPerson se_X12_isPerson rfl rfl hm.k (c_X12_isPerson l hfl G M mb hm x) rfl (Nat.le_of_ble_eq_true rfl) ⟨Nat.le_of_ble_eq_true rfl, Nat.le_of_ble_eq_true rfl⟩ ⟨Nat.le_of_ble_eq_true rfl, Nat.le_of_ble_eq_true rfl⟩ dX12_bonus_2 rfl ?_
  rintro _ _ ⟨rfl, rfl⟩
  refine V.eSt (st' := [.int (bI (rng x 6))]) rfl ?_
  refine r_if_eqB C (t := 28) dX12_bonus_5 (by decide) (fun c5 => ?_) (fun c5 => ?_)
  · skip
    refine r_iconst C (v := nI 0) dX12_bonus_28 (by decide) ?_
    refine V.eSt (st' := [.int (bI false)]) rfl ?_
    refine V.ei (y := bI (rng x 6 && rng y 24 && rng z 3)) (congrArg bI (by simp only [c5] <;> rfl)) ?_
    exact jn29
  · skip
    refine r_aload_n C 0 dX12_bonus_8 rfl rfl ?_
    refine r_iload_n C 2 dX12_bonus_9 rfl rfl ?_
    refine r_callV C hgX (ci := 14) ml_X12_272 im_X12_isMonth se_X12_isMonth rfl rfl hm.k (c_X12_isMonth l hfl G M mb hm y) rfl (Nat.le_of_ble_eq_true rfl) ⟨Nat.le_of_ble_eq_true rfl, Nat.le_of_ble_eq_true rfl⟩ ⟨Nat.le_of_ble_eq_true rfl, Nat.le_of_ble_eq_true rfl⟩ dX12_bonus_10 rfl ?_
    rintro _ _ ⟨rfl, rfl⟩
    refine V.eSt (st' := [.int (bI (rng y 24))]) rfl ?_
    refine r_if_eqB C (t := 28) dX12_bonus_13 (by decide) (fun c13 => ?_) (fun c13 => ?_)
    · skip
      refine r_iconst C (v := nI 0) dX12_bonus_28 (by decide) ?_
      refine V.eSt (st' := [.int (bI false)]) rfl ?_
      refine V.ei (y := bI (rng x 6 && rng y 24 && rng z 3)) (congrArg bI (by simp only [c5, c13] <;> rfl)) ?_
      exact jn29
    · skip
      refine r_aload_n C 0 dX12_bonus_16 rfl rfl ?_
      refine r_iload_n C 3 dX12_bonus_17 rfl rfl ?_
      refine r_callV C hgX (ci := 14) ml_X12_215 im_X12_isPlace se_X12_isPlace rfl rfl hm.k (c_X12_isPlace l hfl G M mb hm z) rfl (Nat.le_of_ble_eq_true rfl) ⟨Nat.le_of_ble_eq_true rfl, Nat.le_of_ble_eq_true rfl⟩ ⟨Nat.le_of_ble_eq_true rfl, Nat.le_of_ble_eq_true rfl⟩ dX12_bonus_18 rfl ?_
      rintro _ _ ⟨rfl, rfl⟩
      refine V.eSt (st' := [.int (bI (rng z 3))]) rfl ?_
      refine r_if_eqB C (t := 28) dX12_bonus_21 (by decide) (fun c21 => ?_) (fun c21 => ?_)
      · skip
        refine r_iconst C (v := nI 0) dX12_bonus_28 (by decide) ?_
        refine V.eSt (st' := [.int (bI false)]) rfl ?_
        refine V.ei (y := bI (rng x 6 && rng y 24 && rng z 3)) (congrArg bI (by simp only [c5, c13, c21] <;> rfl)) ?_
        exact jn29
      · skip
        refine r_iconst C (v := nI 1) dX12_bonus_24 (by decide) ?_
        refine r_goto C (t := 29) dX12_bonus_25 (by decide) ?_
        refine V.eSt (st' := [.int (bI true)]) rfl ?_
        refine V.ei (y := bI (rng x 6 && rng y 24 && rng z 3)) (congrArg bI (by simp only [c5, c13, c21] <;> rfl)) ?_
        exact jn29
set_option maxHeartbeats 4000000 in
set_option maxRecDepth 100000 in
theorem c_X12_contribution (l : Launch) (hfl : l.flags = flags0) (G : gW) (M : Mem) (mb : Nat) (τ : Mu) (hm : MOK (mK M) (mN M) (mR M) mb) (ht : TE (mI M) (mL M) mb τ) (hw : WF τ) (htb : TEb (mI M) (mL M) mb τ) (hlb : LTB M mb) (x y z t : Int32) : CT l yX12_contribution cX12_contribution 5 none 2 0 0 47 G M [.ref mb, .int x, .int y, .int z, .int t] (fun v M' => PP mb M τ (cd2 (rng x 3 && rng y 24) (inB z (lN 0) (lN 500) && inB t (lN 0) (lN 100000000))) (sI (sI τ 31 (24 * x.toNatClampNeg + y.toNatClampNeg) z) 32 (24 * x.toNatClampNeg + y.toNatClampNeg) t) (none) v M') := by
  refine CT.of hfl rfl (Nat.le_of_ble_eq_true rfl) ?_
  intro pp ee ss mm ar bw mt cd C hgX hr hini
  have hnc := hw.nc.2
  have hsh := hw.sh.2
  have hnl := hw.nl.2
  have hne := hw.ne.2
  have hng := hw.ng.2
  have hop := hw.op.2
  have hnp := hw.np.2
  have ht0 := ht
  have hm0 := hm
  have htb0 := htb
  have hfo := fOut.rf [67, 31, 32] mb M
  refine V.eLo (lo' := [(0, .ref mb), (1, .int x), (2, .int y), (3, .int z), (4, .int t)]) rfl ?_
  refine r_aload_n C 0 dX12_contribution_0 rfl rfl ?_
  have jn53 : V pp l ee ({ frames := 2, cells := 0, slots := 0, locals := 47 } : Room) ss mm ar bw mt cd G (MQ bw (Ke G (fun v M' => PP mb M τ (cd2 (rng x 3 && rng y 24) (inB z (lN 0) (lN 500) && inB t (lN 0) (lN 100000000))) (sI (sI τ 31 (24 * x.toNatClampNeg + y.toNatClampNeg) z) 32 (24 * x.toNatClampNeg + y.toNatClampNeg) t) (none) v M')) ar ss 0 0 (gA G)) 5 M 0 0 53 [(0, .ref mb), (1, .int x), (2, .int y), (3, .int z), (4, .int t)] [.int (nI (cd2 (rng x 3 && rng y 24) (inB z (lN 0) (lN 500) && inB t (lN 0) (lN 100000000)))), .ref mb] := by
    skip
    refine r_callV C hgX (ci := 14) ml_X12_227 im_X12_holds se_X12_holds rfl rfl hm.k (c_X12_holds l hfl G M mb hm (nI (cd2 (rng x 3 && rng y 24) (inB z (lN 0) (lN 500) && inB t (lN 0) (lN 100000000))))) rfl (Nat.le_of_ble_eq_true rfl) ⟨Nat.le_of_ble_eq_true rfl, Nat.le_of_ble_eq_true rfl⟩ ⟨Nat.le_of_ble_eq_true rfl, Nat.le_of_ble_eq_true rfl⟩ dX12_contribution_53 rfl ?_
    rintro _ _ ⟨rfl, rfl⟩
    refine V.eSt (st' := [.int (bI (decide (0 < nI (cd2 (rng x 3 && rng y 24) (inB z (lN 0) (lN 500) && inB t (lN 0) (lN 100000000))))))]) rfl ?_
    refine V.ei (y := bI (decide ((cd2 (rng x 3 && rng y 24) (inB z (lN 0) (lN 500) && inB t (lN 0) (lN 100000000))) ≠ 0))) (congrArg bI (hold_d (cd2_le _ _))) ?_
    have hfo := hfo.set0 67 (nI (cd2 (rng x 3 && rng y 24) (inB z (lN 0) (lN 500) && inB t (lN 0) (lN 100000000)))) rfl
    have ht := ht.ws 67 (nI (cd2 (rng x 3 && rng y 24) (inB z (lN 0) (lN 500) && inB t (lN 0) (lN 100000000)))) rfl rfl
    have htb := ((fOut.rf [67] mb _).set0 67 (nI (cd2 (rng x 3 && rng y 24) (inB z (lN 0) (lN 500) && inB t (lN 0) (lN 100000000)))) rfl).tb rfl htb
    have h67 : mI (wI M mb 67 (nI (cd2 (rng x 3 && rng y 24) (inB z (lN 0) (lN 500) && inB t (lN 0) (lN 100000000))))) mb 67 = nI (cd2 (rng x 3 && rng y 24) (inB z (lN 0) (lN 500) && inB t (lN 0) (lN 100000000))) := up2_same _ _ _ _
    have hlb : LTB (wI M mb 67 (nI (cd2 (rng x 3 && rng y 24) (inB z (lN 0) (lN 500) && inB t (lN 0) (lN 100000000))))) mb := hlb.ws 67 _
    refine r_if_neB C (t := 84) dX12_contribution_56 (by decide) (fun c56 => ?_) (fun c56 => ?_)
    · skip
      have c56d := of_decide_eq_true c56
      have hC : (cd2 (rng x 3 && rng y 24) (inB z (lN 0) (lN 500) && inB t (lN 0) (lN 100000000))) ≠ 0 := c56d
      exact r_vret C hr (⟨h67, hfo.mo, hlb, fun _ => ⟨ht, htb⟩, fun q => absurd q hC, by first | exact KD.i | exact KD.l | exact KD.n⟩) (by first | exact Nat.zero_le _ | decide) (by first | exact Nat.zero_le _ | decide) dX12_contribution_84
    · skip
      have c56d := of_decide_eq_false c56
      have hC : (cd2 (rng x 3 && rng y 24) (inB z (lN 0) (lN 500) && inB t (lN 0) (lN 100000000))) = 0 := by have := c56d; omega
      obtain ⟨h1, h2⟩ := cd2_0 hC
      obtain ⟨hx, hy⟩ := Bool.and_eq_true_iff.mp h1
      obtain ⟨c, hc, e_x⟩ := rng_t hx
      obtain ⟨d, hd, e_y⟩ := rng_t hy
      refine V.eLo (lo' := [(0, .ref mb), (1, .int (nI c)), (2, .int (nI d)), (3, .int z), (4, .int t)]) (by rw [e_x, e_y]) ?_
      refine r_aload_n C 0 dX12_contribution_59 rfl rfl ?_
      refine r_getR C (b := (ma mb 31)) fl_X12_80 rfl hm.k (hm.r 31 rfl) dX12_contribution_60 ?_
      refine r_bipush C (v := nI 24) dX12_contribution_63 (by decide) ?_
      refine r_iload_n C 1 dX12_contribution_65 rfl rfl ?_
      refine r_imulN C dX12_contribution_66 ?_
      refine r_iload_n C 2 dX12_contribution_67 rfl rfl ?_
      refine r_iaddN C dX12_contribution_68 ?_
      refine r_iload_n C 3 dX12_contribution_69 rfl rfl ?_
      refine r_iastoreN C (hm.i 31 20 rfl) (hm.n 31 72 rfl) (by omega) (by omega) dX12_contribution_70 ?_
      have htb := ((fOut.rf [31] mb _).setI 31 (24 * c + d) z rfl).tb rfl htb
      have hlb : LTB (wI (wI M mb 67 (nI (cd2 (rng x 3 && rng y 24) (inB z (lN 0) (lN 500) && inB t (lN 0) (lN 100000000))))) (ma mb 31) (24 * c + d) z) mb := hlb.wi 31 _ _ rfl
      have hfo := hfo.setI 31 (24 * c + d) z rfl
      have h67 : mI (wI (wI M mb 67 (nI (cd2 (rng x 3 && rng y 24) (inB z (lN 0) (lN 500) && inB t (lN 0) (lN 100000000))))) (ma mb 31) (24 * c + d) z) mb 67 = _ := (up2_a _ _ (ma_0 rfl).symm).trans h67
      have ht := ht.ui 31 (24 * c + d) z rfl
      refine r_aload_n C 0 dX12_contribution_71 rfl rfl ?_
      refine r_getR C (b := (ma mb 32)) fl_X12_83 rfl hm.k (hm.r 32 rfl) dX12_contribution_72 ?_
      refine r_bipush C (v := nI 24) dX12_contribution_75 (by decide) ?_
      refine r_iload_n C 1 dX12_contribution_77 rfl rfl ?_
      refine r_imulN C dX12_contribution_78 ?_
      refine r_iload_n C 2 dX12_contribution_79 rfl rfl ?_
      refine r_iaddN C dX12_contribution_80 ?_
      refine r_iload C 4 dX12_contribution_81 rfl ?_
      refine r_iastoreN C (hm.i 32 20 rfl) (hm.n 32 72 rfl) (by omega) (by omega) dX12_contribution_83 ?_
      have htb := ((fOut.rf [32] mb _).setI 32 (24 * c + d) t rfl).tb rfl htb
      have hlb : LTB (wI (wI (wI M mb 67 (nI (cd2 (rng x 3 && rng y 24) (inB z (lN 0) (lN 500) && inB t (lN 0) (lN 100000000))))) (ma mb 31) (24 * c + d) z) (ma mb 32) (24 * c + d) t) mb := hlb.wi 32 _ _ rfl
      have hfo := hfo.setI 32 (24 * c + d) t rfl
      have h67 : mI (wI (wI (wI M mb 67 (nI (cd2 (rng x 3 && rng y 24) (inB z (lN 0) (lN 500) && inB t (lN 0) (lN 100000000))))) (ma mb 31) (24 * c + d) z) (ma mb 32) (24 * c + d) t) mb 67 = _ := (up2_a _ _ (ma_0 rfl).symm).trans h67
      have ht := ht.ui 32 (24 * c + d) t rfl
      exact r_vret C hr (⟨h67, hfo.mo, hlb, fun q => absurd hC q, fun _ => ⟨rfl, by rw [← (show sI (sI τ 31 (24 * c + d) z) 32 (24 * c + d) t = sI (sI τ 31 (24 * x.toNatClampNeg + y.toNatClampNeg) z) 32 (24 * x.toNatClampNeg + y.toNatClampNeg) t by rw [e_x, e_y, nI_clamp (n := c) (by omega), nI_clamp (n := d) (by omega)])]; exact ht, htb.cg rfl rfl (fun _ => ⟨rfl, rfl⟩) (fun _ => ⟨rfl, rfl⟩) (fun _ => ⟨rfl, rfl⟩) (fun _ => ⟨rfl, rfl⟩) (fun _ => ⟨rfl, rfl⟩) (fun _ => ⟨rfl, rfl⟩) (fun _ => ⟨rfl, rfl⟩) ⟩, by first | exact KD.i | exact KD.l | exact KD.n⟩) (by first | exact Nat.zero_le _ | decide) (by first | exact Nat.zero_le _ | decide) dX12_contribution_84
  refine r_aload_n C 0 dX12_contribution_1 rfl rfl ?_
  refine r_iload_n C 1 dX12_contribution_2 rfl rfl ?_
  refine r_callV C hgX (ci := 14) ml_X12_215 im_X12_isPlace se_X12_isPlace rfl rfl hm.k (c_X12_isPlace l hfl G M mb hm x) rfl (Nat.le_of_ble_eq_true rfl) ⟨Nat.le_of_ble_eq_true rfl, Nat.le_of_ble_eq_true rfl⟩ ⟨Nat.le_of_ble_eq_true rfl, Nat.le_of_ble_eq_true rfl⟩ dX12_contribution_3 rfl ?_
  rintro _ _ ⟨rfl, rfl⟩
  refine V.eSt (st' := [.int (bI (rng x 3)), .ref mb]) rfl ?_
  refine r_if_eqB C (t := 17) dX12_contribution_6 (by decide) (fun c6 => ?_) (fun c6 => ?_)
  · skip
    refine r_iconst C (v := nI 1) dX12_contribution_17 (by decide) ?_
    refine r_goto C (t := 53) dX12_contribution_18 (by decide) ?_
    refine V.ei (y := nI (cd2 (rng x 3 && rng y 24) (inB z (lN 0) (lN 500) && inB t (lN 0) (lN 100000000)))) (congrArg nI (by simp only [c6] <;> rfl)) ?_
    exact jn53
  · skip
    refine r_aload_n C 0 dX12_contribution_9 rfl rfl ?_
    refine r_iload_n C 2 dX12_contribution_10 rfl rfl ?_
    refine r_callV C hgX (ci := 14) ml_X12_272 im_X12_isMonth se_X12_isMonth rfl rfl hm.k (c_X12_isMonth l hfl G M mb hm y) rfl (Nat.le_of_ble_eq_true rfl) ⟨Nat.le_of_ble_eq_true rfl, Nat.le_of_ble_eq_true rfl⟩ ⟨Nat.le_of_ble_eq_true rfl, Nat.le_of_ble_eq_true rfl⟩ dX12_contribution_11 rfl ?_
    rintro _ _ ⟨rfl, rfl⟩
    refine V.eSt (st' := [.int (bI (rng y 24)), .ref mb]) rfl ?_
    refine r_if_neB C (t := 21) dX12_contribution_14 (by decide) (fun c14 => ?_) (fun c14 => ?_)
    · skip
      refine r_aload_n C 0 dX12_contribution_21 rfl rfl ?_
      refine r_iload_n C 3 dX12_contribution_22 rfl rfl ?_
      refine r_i2l C dX12_contribution_23 ?_
      refine r_lconst C (v := lN 0) dX12_contribution_24 (by decide) ?_
      refine r_ldc2 C (v := 500) kl_X12_286 dX12_contribution_25 ?_
      refine V.el (y := lN 500) (by decide) ?_
      refine r_callV C hgX (ci := 14) ml_X12_191 im_X12_in se_X12_in rfl rfl hm.k (c_X12_in l hfl G M mb z.toInt64 (lN 0) (lN 500)) rfl (Nat.le_of_ble_eq_true rfl) ⟨Nat.le_of_ble_eq_true rfl, Nat.le_of_ble_eq_true rfl⟩ ⟨Nat.le_of_ble_eq_true rfl, Nat.le_of_ble_eq_true rfl⟩ dX12_contribution_28 rfl ?_
      rintro _ _ ⟨rfl, rfl⟩
      refine V.eSt (st' := [.int (bI (decide ((lN 0) ≤ z.toInt64 ∧ z.toInt64 ≤ (lN 500)))), .ref mb]) rfl ?_
      refine V.ei (y := bI (inB z (lN 0) (lN 500))) rfl ?_
      refine r_if_eqB C (t := 52) dX12_contribution_31 (by decide) (fun c31 => ?_) (fun c31 => ?_)
      · skip
        refine r_iconst C (v := nI 2) dX12_contribution_52 (by decide) ?_
        refine V.ei (y := nI (cd2 (rng x 3 && rng y 24) (inB z (lN 0) (lN 500) && inB t (lN 0) (lN 100000000)))) (congrArg nI (by simp only [c6, c14, c31] <;> rfl)) ?_
        exact jn53
      · skip
        refine r_aload_n C 0 dX12_contribution_34 rfl rfl ?_
        refine r_iload C 4 dX12_contribution_35 rfl ?_
        refine r_i2l C dX12_contribution_37 ?_
        refine r_lconst C (v := lN 0) dX12_contribution_38 (by decide) ?_
        refine r_ldc2 C (v := 100000000) kl_X12_327 dX12_contribution_39 ?_
        refine V.el (y := lN 100000000) (by decide) ?_
        refine r_callV C hgX (ci := 14) ml_X12_191 im_X12_in se_X12_in rfl rfl hm.k (c_X12_in l hfl G M mb t.toInt64 (lN 0) (lN 100000000)) rfl (Nat.le_of_ble_eq_true rfl) ⟨Nat.le_of_ble_eq_true rfl, Nat.le_of_ble_eq_true rfl⟩ ⟨Nat.le_of_ble_eq_true rfl, Nat.le_of_ble_eq_true rfl⟩ dX12_contribution_42 rfl ?_
        rintro _ _ ⟨rfl, rfl⟩
        refine V.eSt (st' := [.int (bI (decide ((lN 0) ≤ t.toInt64 ∧ t.toInt64 ≤ (lN 100000000)))), .ref mb]) rfl ?_
        refine V.ei (y := bI (inB t (lN 0) (lN 100000000))) rfl ?_
        refine r_if_eqB C (t := 52) dX12_contribution_45 (by decide) (fun c45 => ?_) (fun c45 => ?_)
        · skip
          refine r_iconst C (v := nI 2) dX12_contribution_52 (by decide) ?_
          refine V.ei (y := nI (cd2 (rng x 3 && rng y 24) (inB z (lN 0) (lN 500) && inB t (lN 0) (lN 100000000)))) (congrArg nI (by simp only [c6, c14, c31, c45] <;> rfl)) ?_
          exact jn53
        · skip
          refine r_iconst C (v := nI 0) dX12_contribution_48 (by decide) ?_
          refine r_goto C (t := 53) dX12_contribution_49 (by decide) ?_
          refine V.ei (y := nI (cd2 (rng x 3 && rng y 24) (inB z (lN 0) (lN 500) && inB t (lN 0) (lN 100000000)))) (congrArg nI (by simp only [c6, c14, c31, c45] <;> rfl)) ?_
          exact jn53
    · skip
      refine r_iconst C (v := nI 1) dX12_contribution_17 (by decide) ?_
      refine r_goto C (t := 53) dX12_contribution_18 (by decide) ?_
      refine V.ei (y := nI (cd2 (rng x 3 && rng y 24) (inB z (lN 0) (lN 500) && inB t (lN 0) (lN 100000000)))) (congrArg nI (by simp only [c6, c14] <;> rfl)) ?_
      exact jn53
set_option maxHeartbeats 4000000 in
set_option maxRecDepth 100000 in
theorem c_X12_state (l : Launch) (hfl : l.flags = flags0) (G : gW) (M : Mem) (mb : Nat) (τ : Mu) (hm : MOK (mK M) (mN M) (mR M) mb) (ht : TE (mI M) (mL M) mb τ) (hw : WF τ) (htb : TEb (mI M) (mL M) mb τ) (hlb : LTB M mb) (x y z : Int32) : CT l yX12_state cX12_state 4 none 2 0 0 47 G M [.ref mb, .int x, .int y, .int z] (fun v M' => PP mb M τ (cd2 (rng x 6 && rng y 24) (inB z (lN 0) (lN 1))) (sI τ 36 (24 * x.toNatClampNeg + y.toNatClampNeg) z) (none) v M') := by
  refine CT.of hfl rfl (Nat.le_of_ble_eq_true rfl) ?_
  intro pp ee ss mm ar bw mt cd C hgX hr hini
  have hnc := hw.nc.2
  have hsh := hw.sh.2
  have hnl := hw.nl.2
  have hne := hw.ne.2
  have hng := hw.ng.2
  have hop := hw.op.2
  have hnp := hw.np.2
  have ht0 := ht
  have hm0 := hm
  have htb0 := htb
  have hfo := fOut.rf [67, 36] mb M
  refine V.eLo (lo' := [(0, .ref mb), (1, .int x), (2, .int y), (3, .int z)]) rfl ?_
  refine r_aload_n C 0 dX12_state_0 rfl rfl ?_
  have jn37 : V pp l ee ({ frames := 2, cells := 0, slots := 0, locals := 47 } : Room) ss mm ar bw mt cd G (MQ bw (Ke G (fun v M' => PP mb M τ (cd2 (rng x 6 && rng y 24) (inB z (lN 0) (lN 1))) (sI τ 36 (24 * x.toNatClampNeg + y.toNatClampNeg) z) (none) v M')) ar ss 0 0 (gA G)) 4 M 0 0 37 [(0, .ref mb), (1, .int x), (2, .int y), (3, .int z)] [.int (nI (cd2 (rng x 6 && rng y 24) (inB z (lN 0) (lN 1)))), .ref mb] := by
    skip
    refine r_callV C hgX (ci := 14) ml_X12_227 im_X12_holds se_X12_holds rfl rfl hm.k (c_X12_holds l hfl G M mb hm (nI (cd2 (rng x 6 && rng y 24) (inB z (lN 0) (lN 1))))) rfl (Nat.le_of_ble_eq_true rfl) ⟨Nat.le_of_ble_eq_true rfl, Nat.le_of_ble_eq_true rfl⟩ ⟨Nat.le_of_ble_eq_true rfl, Nat.le_of_ble_eq_true rfl⟩ dX12_state_37 rfl ?_
    rintro _ _ ⟨rfl, rfl⟩
    refine V.eSt (st' := [.int (bI (decide (0 < nI (cd2 (rng x 6 && rng y 24) (inB z (lN 0) (lN 1))))))]) rfl ?_
    refine V.ei (y := bI (decide ((cd2 (rng x 6 && rng y 24) (inB z (lN 0) (lN 1))) ≠ 0))) (congrArg bI (hold_d (cd2_le _ _))) ?_
    have hfo := hfo.set0 67 (nI (cd2 (rng x 6 && rng y 24) (inB z (lN 0) (lN 1)))) rfl
    have ht := ht.ws 67 (nI (cd2 (rng x 6 && rng y 24) (inB z (lN 0) (lN 1)))) rfl rfl
    have htb := ((fOut.rf [67] mb _).set0 67 (nI (cd2 (rng x 6 && rng y 24) (inB z (lN 0) (lN 1)))) rfl).tb rfl htb
    have h67 : mI (wI M mb 67 (nI (cd2 (rng x 6 && rng y 24) (inB z (lN 0) (lN 1))))) mb 67 = nI (cd2 (rng x 6 && rng y 24) (inB z (lN 0) (lN 1))) := up2_same _ _ _ _
    have hlb : LTB (wI M mb 67 (nI (cd2 (rng x 6 && rng y 24) (inB z (lN 0) (lN 1))))) mb := hlb.ws 67 _
    refine r_if_neB C (t := 55) dX12_state_40 (by decide) (fun c40 => ?_) (fun c40 => ?_)
    · skip
      have c40d := of_decide_eq_true c40
      have hC : (cd2 (rng x 6 && rng y 24) (inB z (lN 0) (lN 1))) ≠ 0 := c40d
      exact r_vret C hr (⟨h67, hfo.mo, hlb, fun _ => ⟨ht, htb⟩, fun q => absurd q hC, by first | exact KD.i | exact KD.l | exact KD.n⟩) (by first | exact Nat.zero_le _ | decide) (by first | exact Nat.zero_le _ | decide) dX12_state_55
    · skip
      have c40d := of_decide_eq_false c40
      have hC : (cd2 (rng x 6 && rng y 24) (inB z (lN 0) (lN 1))) = 0 := by have := c40d; omega
      obtain ⟨h1, h2⟩ := cd2_0 hC
      obtain ⟨hx, hy⟩ := Bool.and_eq_true_iff.mp h1
      obtain ⟨c, hc, e_x⟩ := rng_t hx
      obtain ⟨d, hd, e_y⟩ := rng_t hy
      refine V.eLo (lo' := [(0, .ref mb), (1, .int (nI c)), (2, .int (nI d)), (3, .int z)]) (by rw [e_x, e_y]) ?_
      refine r_aload_n C 0 dX12_state_43 rfl rfl ?_
      refine r_getR C (b := (ma mb 36)) fl_X12_95 rfl hm.k (hm.r 36 rfl) dX12_state_44 ?_
      refine r_bipush C (v := nI 24) dX12_state_47 (by decide) ?_
      refine r_iload_n C 1 dX12_state_49 rfl rfl ?_
      refine r_imulN C dX12_state_50 ?_
      refine r_iload_n C 2 dX12_state_51 rfl rfl ?_
      refine r_iaddN C dX12_state_52 ?_
      refine r_iload_n C 3 dX12_state_53 rfl rfl ?_
      refine r_iastoreN C (hm.i 36 20 rfl) (hm.n 36 144 rfl) (by omega) (by omega) dX12_state_54 ?_
      have htb := ((fOut.rf [36] mb _).setI 36 (24 * c + d) z rfl).tb rfl htb
      have hlb : LTB (wI (wI M mb 67 (nI (cd2 (rng x 6 && rng y 24) (inB z (lN 0) (lN 1))))) (ma mb 36) (24 * c + d) z) mb := hlb.wi 36 _ _ rfl
      have hfo := hfo.setI 36 (24 * c + d) z rfl
      have h67 : mI (wI (wI M mb 67 (nI (cd2 (rng x 6 && rng y 24) (inB z (lN 0) (lN 1))))) (ma mb 36) (24 * c + d) z) mb 67 = _ := (up2_a _ _ (ma_0 rfl).symm).trans h67
      have ht := ht.ui 36 (24 * c + d) z rfl
      exact r_vret C hr (⟨h67, hfo.mo, hlb, fun q => absurd hC q, fun _ => ⟨rfl, by rw [← (show sI τ 36 (24 * c + d) z = sI τ 36 (24 * x.toNatClampNeg + y.toNatClampNeg) z by rw [e_x, e_y, nI_clamp (n := c) (by omega), nI_clamp (n := d) (by omega)])]; exact ht, htb.cg rfl rfl (fun _ => ⟨rfl, rfl⟩) (fun _ => ⟨rfl, rfl⟩) (fun _ => ⟨rfl, rfl⟩) (fun _ => ⟨rfl, rfl⟩) (fun _ => ⟨rfl, rfl⟩) (fun _ => ⟨rfl, rfl⟩) (fun _ => ⟨rfl, rfl⟩) ⟩, by first | exact KD.i | exact KD.l | exact KD.n⟩) (by first | exact Nat.zero_le _ | decide) (by first | exact Nat.zero_le _ | decide) dX12_state_55
  refine r_aload_n C 0 dX12_state_1 rfl rfl ?_
  refine r_iload_n C 1 dX12_state_2 rfl rfl ?_
  refine r_callV C hgX (ci := 14) ml_X12_212 im_X12_isPerson se_X12_isPerson rfl rfl hm.k (c_X12_isPerson l hfl G M mb hm x) rfl (Nat.le_of_ble_eq_true rfl) ⟨Nat.le_of_ble_eq_true rfl, Nat.le_of_ble_eq_true rfl⟩ ⟨Nat.le_of_ble_eq_true rfl, Nat.le_of_ble_eq_true rfl⟩ dX12_state_3 rfl ?_
  rintro _ _ ⟨rfl, rfl⟩
  refine V.eSt (st' := [.int (bI (rng x 6)), .ref mb]) rfl ?_
  refine r_if_eqB C (t := 17) dX12_state_6 (by decide) (fun c6 => ?_) (fun c6 => ?_)
  · skip
    refine r_iconst C (v := nI 1) dX12_state_17 (by decide) ?_
    refine r_goto C (t := 37) dX12_state_18 (by decide) ?_
    refine V.ei (y := nI (cd2 (rng x 6 && rng y 24) (inB z (lN 0) (lN 1)))) (congrArg nI (by simp only [c6] <;> rfl)) ?_
    exact jn37
  · skip
    refine r_aload_n C 0 dX12_state_9 rfl rfl ?_
    refine r_iload_n C 2 dX12_state_10 rfl rfl ?_
    refine r_callV C hgX (ci := 14) ml_X12_272 im_X12_isMonth se_X12_isMonth rfl rfl hm.k (c_X12_isMonth l hfl G M mb hm y) rfl (Nat.le_of_ble_eq_true rfl) ⟨Nat.le_of_ble_eq_true rfl, Nat.le_of_ble_eq_true rfl⟩ ⟨Nat.le_of_ble_eq_true rfl, Nat.le_of_ble_eq_true rfl⟩ dX12_state_11 rfl ?_
    rintro _ _ ⟨rfl, rfl⟩
    refine V.eSt (st' := [.int (bI (rng y 24)), .ref mb]) rfl ?_
    refine r_if_neB C (t := 21) dX12_state_14 (by decide) (fun c14 => ?_) (fun c14 => ?_)
    · skip
      refine r_aload_n C 0 dX12_state_21 rfl rfl ?_
      refine r_iload_n C 3 dX12_state_22 rfl rfl ?_
      refine r_i2l C dX12_state_23 ?_
      refine r_lconst C (v := lN 0) dX12_state_24 (by decide) ?_
      refine r_lconst C (v := lN 1) dX12_state_25 (by decide) ?_
      refine r_callV C hgX (ci := 14) ml_X12_191 im_X12_in se_X12_in rfl rfl hm.k (c_X12_in l hfl G M mb z.toInt64 (lN 0) (lN 1)) rfl (Nat.le_of_ble_eq_true rfl) ⟨Nat.le_of_ble_eq_true rfl, Nat.le_of_ble_eq_true rfl⟩ ⟨Nat.le_of_ble_eq_true rfl, Nat.le_of_ble_eq_true rfl⟩ dX12_state_26 rfl ?_
      rintro _ _ ⟨rfl, rfl⟩
      refine V.eSt (st' := [.int (bI (decide ((lN 0) ≤ z.toInt64 ∧ z.toInt64 ≤ (lN 1)))), .ref mb]) rfl ?_
      refine V.ei (y := bI (inB z (lN 0) (lN 1))) rfl ?_
      refine r_if_eqB C (t := 36) dX12_state_29 (by decide) (fun c29 => ?_) (fun c29 => ?_)
      · skip
        refine r_iconst C (v := nI 2) dX12_state_36 (by decide) ?_
        refine V.ei (y := nI (cd2 (rng x 6 && rng y 24) (inB z (lN 0) (lN 1)))) (congrArg nI (by simp only [c6, c14, c29] <;> rfl)) ?_
        exact jn37
      · skip
        refine r_iconst C (v := nI 0) dX12_state_32 (by decide) ?_
        refine r_goto C (t := 37) dX12_state_33 (by decide) ?_
        refine V.ei (y := nI (cd2 (rng x 6 && rng y 24) (inB z (lN 0) (lN 1)))) (congrArg nI (by simp only [c6, c14, c29] <;> rfl)) ?_
        exact jn37
    · skip
      refine r_iconst C (v := nI 1) dX12_state_17 (by decide) ?_
      refine r_goto C (t := 37) dX12_state_18 (by decide) ?_
      refine V.ei (y := nI (cd2 (rng x 6 && rng y 24) (inB z (lN 0) (lN 1)))) (congrArg nI (by simp only [c6, c14] <;> rfl)) ?_
      exact jn37
set_option maxHeartbeats 4000000 in
set_option maxRecDepth 100000 in
theorem c_X12_pension (l : Launch) (hfl : l.flags = flags0) (G : gW) (M : Mem) (mb : Nat) (τ : Mu) (hm : MOK (mK M) (mN M) (mR M) mb) (ht : TE (mI M) (mL M) mb τ) (hw : WF τ) (htb : TEb (mI M) (mL M) mb τ) (hlb : LTB M mb) (x y z : Int32) : CT l yX12_pension cX12_pension 4 none 2 0 0 47 G M [.ref mb, .int x, .int y, .int z] (fun v M' => PP mb M τ (cd2 (rng x 6 && rng y 24) (inB z (lN 0) (lN 200))) (sI τ 37 (24 * x.toNatClampNeg + y.toNatClampNeg) z) (none) v M') := by
  refine CT.of hfl rfl (Nat.le_of_ble_eq_true rfl) ?_
  intro pp ee ss mm ar bw mt cd C hgX hr hini
  have hnc := hw.nc.2
  have hsh := hw.sh.2
  have hnl := hw.nl.2
  have hne := hw.ne.2
  have hng := hw.ng.2
  have hop := hw.op.2
  have hnp := hw.np.2
  have ht0 := ht
  have hm0 := hm
  have htb0 := htb
  have hfo := fOut.rf [67, 37] mb M
  refine V.eLo (lo' := [(0, .ref mb), (1, .int x), (2, .int y), (3, .int z)]) rfl ?_
  refine r_aload_n C 0 dX12_pension_0 rfl rfl ?_
  have jn39 : V pp l ee ({ frames := 2, cells := 0, slots := 0, locals := 47 } : Room) ss mm ar bw mt cd G (MQ bw (Ke G (fun v M' => PP mb M τ (cd2 (rng x 6 && rng y 24) (inB z (lN 0) (lN 200))) (sI τ 37 (24 * x.toNatClampNeg + y.toNatClampNeg) z) (none) v M')) ar ss 0 0 (gA G)) 4 M 0 0 39 [(0, .ref mb), (1, .int x), (2, .int y), (3, .int z)] [.int (nI (cd2 (rng x 6 && rng y 24) (inB z (lN 0) (lN 200)))), .ref mb] := by
    skip
    refine r_callV C hgX (ci := 14) ml_X12_227 im_X12_holds se_X12_holds rfl rfl hm.k (c_X12_holds l hfl G M mb hm (nI (cd2 (rng x 6 && rng y 24) (inB z (lN 0) (lN 200))))) rfl (Nat.le_of_ble_eq_true rfl) ⟨Nat.le_of_ble_eq_true rfl, Nat.le_of_ble_eq_true rfl⟩ ⟨Nat.le_of_ble_eq_true rfl, Nat.le_of_ble_eq_true rfl⟩ dX12_pension_39 rfl ?_
    rintro _ _ ⟨rfl, rfl⟩
    refine V.eSt (st' := [.int (bI (decide (0 < nI (cd2 (rng x 6 && rng y 24) (inB z (lN 0) (lN 200))))))]) rfl ?_
    refine V.ei (y := bI (decide ((cd2 (rng x 6 && rng y 24) (inB z (lN 0) (lN 200))) ≠ 0))) (congrArg bI (hold_d (cd2_le _ _))) ?_
    have hfo := hfo.set0 67 (nI (cd2 (rng x 6 && rng y 24) (inB z (lN 0) (lN 200)))) rfl
    have ht := ht.ws 67 (nI (cd2 (rng x 6 && rng y 24) (inB z (lN 0) (lN 200)))) rfl rfl
    have htb := ((fOut.rf [67] mb _).set0 67 (nI (cd2 (rng x 6 && rng y 24) (inB z (lN 0) (lN 200)))) rfl).tb rfl htb
    have h67 : mI (wI M mb 67 (nI (cd2 (rng x 6 && rng y 24) (inB z (lN 0) (lN 200))))) mb 67 = nI (cd2 (rng x 6 && rng y 24) (inB z (lN 0) (lN 200))) := up2_same _ _ _ _
    have hlb : LTB (wI M mb 67 (nI (cd2 (rng x 6 && rng y 24) (inB z (lN 0) (lN 200))))) mb := hlb.ws 67 _
    refine r_if_neB C (t := 57) dX12_pension_42 (by decide) (fun c42 => ?_) (fun c42 => ?_)
    · skip
      have c42d := of_decide_eq_true c42
      have hC : (cd2 (rng x 6 && rng y 24) (inB z (lN 0) (lN 200))) ≠ 0 := c42d
      exact r_vret C hr (⟨h67, hfo.mo, hlb, fun _ => ⟨ht, htb⟩, fun q => absurd q hC, by first | exact KD.i | exact KD.l | exact KD.n⟩) (by first | exact Nat.zero_le _ | decide) (by first | exact Nat.zero_le _ | decide) dX12_pension_57
    · skip
      have c42d := of_decide_eq_false c42
      have hC : (cd2 (rng x 6 && rng y 24) (inB z (lN 0) (lN 200))) = 0 := by have := c42d; omega
      obtain ⟨h1, h2⟩ := cd2_0 hC
      obtain ⟨hx, hy⟩ := Bool.and_eq_true_iff.mp h1
      obtain ⟨c, hc, e_x⟩ := rng_t hx
      obtain ⟨d, hd, e_y⟩ := rng_t hy
      refine V.eLo (lo' := [(0, .ref mb), (1, .int (nI c)), (2, .int (nI d)), (3, .int z)]) (by rw [e_x, e_y]) ?_
      refine r_aload_n C 0 dX12_pension_45 rfl rfl ?_
      refine r_getR C (b := (ma mb 37)) fl_X12_98 rfl hm.k (hm.r 37 rfl) dX12_pension_46 ?_
      refine r_bipush C (v := nI 24) dX12_pension_49 (by decide) ?_
      refine r_iload_n C 1 dX12_pension_51 rfl rfl ?_
      refine r_imulN C dX12_pension_52 ?_
      refine r_iload_n C 2 dX12_pension_53 rfl rfl ?_
      refine r_iaddN C dX12_pension_54 ?_
      refine r_iload_n C 3 dX12_pension_55 rfl rfl ?_
      refine r_iastoreN C (hm.i 37 20 rfl) (hm.n 37 144 rfl) (by omega) (by omega) dX12_pension_56 ?_
      have htb := ((fOut.rf [37] mb _).setI 37 (24 * c + d) z rfl).tb rfl htb
      have hlb : LTB (wI (wI M mb 67 (nI (cd2 (rng x 6 && rng y 24) (inB z (lN 0) (lN 200))))) (ma mb 37) (24 * c + d) z) mb := hlb.wi 37 _ _ rfl
      have hfo := hfo.setI 37 (24 * c + d) z rfl
      have h67 : mI (wI (wI M mb 67 (nI (cd2 (rng x 6 && rng y 24) (inB z (lN 0) (lN 200))))) (ma mb 37) (24 * c + d) z) mb 67 = _ := (up2_a _ _ (ma_0 rfl).symm).trans h67
      have ht := ht.ui 37 (24 * c + d) z rfl
      exact r_vret C hr (⟨h67, hfo.mo, hlb, fun q => absurd hC q, fun _ => ⟨rfl, by rw [← (show sI τ 37 (24 * c + d) z = sI τ 37 (24 * x.toNatClampNeg + y.toNatClampNeg) z by rw [e_x, e_y, nI_clamp (n := c) (by omega), nI_clamp (n := d) (by omega)])]; exact ht, htb.cg rfl rfl (fun _ => ⟨rfl, rfl⟩) (fun _ => ⟨rfl, rfl⟩) (fun _ => ⟨rfl, rfl⟩) (fun _ => ⟨rfl, rfl⟩) (fun _ => ⟨rfl, rfl⟩) (fun _ => ⟨rfl, rfl⟩) (fun _ => ⟨rfl, rfl⟩) ⟩, by first | exact KD.i | exact KD.l | exact KD.n⟩) (by first | exact Nat.zero_le _ | decide) (by first | exact Nat.zero_le _ | decide) dX12_pension_57
  refine r_aload_n C 0 dX12_pension_1 rfl rfl ?_
  refine r_iload_n C 1 dX12_pension_2 rfl rfl ?_
  refine r_callV C hgX (ci := 14) ml_X12_212 im_X12_isPerson se_X12_isPerson rfl rfl hm.k (c_X12_isPerson l hfl G M mb hm x) rfl (Nat.le_of_ble_eq_true rfl) ⟨Nat.le_of_ble_eq_true rfl, Nat.le_of_ble_eq_true rfl⟩ ⟨Nat.le_of_ble_eq_true rfl, Nat.le_of_ble_eq_true rfl⟩ dX12_pension_3 rfl ?_
  rintro _ _ ⟨rfl, rfl⟩
  refine V.eSt (st' := [.int (bI (rng x 6)), .ref mb]) rfl ?_
  refine r_if_eqB C (t := 17) dX12_pension_6 (by decide) (fun c6 => ?_) (fun c6 => ?_)
  · skip
    refine r_iconst C (v := nI 1) dX12_pension_17 (by decide) ?_
    refine r_goto C (t := 39) dX12_pension_18 (by decide) ?_
    refine V.ei (y := nI (cd2 (rng x 6 && rng y 24) (inB z (lN 0) (lN 200)))) (congrArg nI (by simp only [c6] <;> rfl)) ?_
    exact jn39
  · skip
    refine r_aload_n C 0 dX12_pension_9 rfl rfl ?_
    refine r_iload_n C 2 dX12_pension_10 rfl rfl ?_
    refine r_callV C hgX (ci := 14) ml_X12_272 im_X12_isMonth se_X12_isMonth rfl rfl hm.k (c_X12_isMonth l hfl G M mb hm y) rfl (Nat.le_of_ble_eq_true rfl) ⟨Nat.le_of_ble_eq_true rfl, Nat.le_of_ble_eq_true rfl⟩ ⟨Nat.le_of_ble_eq_true rfl, Nat.le_of_ble_eq_true rfl⟩ dX12_pension_11 rfl ?_
    rintro _ _ ⟨rfl, rfl⟩
    refine V.eSt (st' := [.int (bI (rng y 24)), .ref mb]) rfl ?_
    refine r_if_neB C (t := 21) dX12_pension_14 (by decide) (fun c14 => ?_) (fun c14 => ?_)
    · skip
      refine r_aload_n C 0 dX12_pension_21 rfl rfl ?_
      refine r_iload_n C 3 dX12_pension_22 rfl rfl ?_
      refine r_i2l C dX12_pension_23 ?_
      refine r_lconst C (v := lN 0) dX12_pension_24 (by decide) ?_
      refine r_ldc2 C (v := 200) kl_X12_349 dX12_pension_25 ?_
      refine V.el (y := lN 200) (by decide) ?_
      refine r_callV C hgX (ci := 14) ml_X12_191 im_X12_in se_X12_in rfl rfl hm.k (c_X12_in l hfl G M mb z.toInt64 (lN 0) (lN 200)) rfl (Nat.le_of_ble_eq_true rfl) ⟨Nat.le_of_ble_eq_true rfl, Nat.le_of_ble_eq_true rfl⟩ ⟨Nat.le_of_ble_eq_true rfl, Nat.le_of_ble_eq_true rfl⟩ dX12_pension_28 rfl ?_
      rintro _ _ ⟨rfl, rfl⟩
      refine V.eSt (st' := [.int (bI (decide ((lN 0) ≤ z.toInt64 ∧ z.toInt64 ≤ (lN 200)))), .ref mb]) rfl ?_
      refine V.ei (y := bI (inB z (lN 0) (lN 200))) rfl ?_
      refine r_if_eqB C (t := 38) dX12_pension_31 (by decide) (fun c31 => ?_) (fun c31 => ?_)
      · skip
        refine r_iconst C (v := nI 2) dX12_pension_38 (by decide) ?_
        refine V.ei (y := nI (cd2 (rng x 6 && rng y 24) (inB z (lN 0) (lN 200)))) (congrArg nI (by simp only [c6, c14, c31] <;> rfl)) ?_
        exact jn39
      · skip
        refine r_iconst C (v := nI 0) dX12_pension_34 (by decide) ?_
        refine r_goto C (t := 39) dX12_pension_35 (by decide) ?_
        refine V.ei (y := nI (cd2 (rng x 6 && rng y 24) (inB z (lN 0) (lN 200)))) (congrArg nI (by simp only [c6, c14, c31] <;> rfl)) ?_
        exact jn39
    · skip
      refine r_iconst C (v := nI 1) dX12_pension_17 (by decide) ?_
      refine r_goto C (t := 39) dX12_pension_18 (by decide) ?_
      refine V.ei (y := nI (cd2 (rng x 6 && rng y 24) (inB z (lN 0) (lN 200)))) (congrArg nI (by simp only [c6, c14] <;> rfl)) ?_
      exact jn39
set_option maxHeartbeats 4000000 in
set_option maxRecDepth 100000 in
theorem c_X12_yearTax (l : Launch) (hfl : l.flags = flags0) (G : gW) (M : Mem) (mb : Nat) (τ : Mu) (hm : MOK (mK M) (mN M) (mR M) mb) (ht : TE (mI M) (mL M) mb τ) (hw : WF τ) (htb : TEb (mI M) (mL M) mb τ) (hlb : LTB M mb) (x y z : Int32) (a : Int64) : CT l yX12_yearTax cX12_yearTax 7 (some .long) 2 0 0 60 G M [.ref mb, .int x, .int y, .int z, .long a] (fun v M' => PP mb M τ (cd2 (rng x 3 && rng z 24) (inB y (lN 0) (lN 1) && decide (lN 0 ≤ a ∧ a ≤ lN 10000000000))) (τ) (some (.long (yearL τ (48 * x.toNatClampNeg + 24 * y.toNatClampNeg) z.toNatClampNeg a))) v M') := by
  refine CT.of hfl rfl (Nat.le_of_ble_eq_true rfl) ?_
  intro pp ee ss mm ar bw mt cd C hgX hr hini
  have hnc := hw.nc.2
  have hsh := hw.sh.2
  have hnl := hw.nl.2
  have hne := hw.ne.2
  have hng := hw.ng.2
  have hop := hw.op.2
  have hnp := hw.np.2
  have ht0 := ht
  have hm0 := hm
  have htb0 := htb
  have hfo := fOut.rf [67] mb M
  refine V.eLo (lo' := [(0, .ref mb), (1, .int x), (2, .int y), (3, .int z), (4, .long a)]) rfl ?_
  have jn21 : V pp l ee ({ frames := 2, cells := 0, slots := 0, locals := 60 } : Room) ss mm ar bw mt cd G (MQ bw (Ke G (fun v M' => PP mb M τ (cd2 (rng x 3 && rng z 24) (inB y (lN 0) (lN 1) && decide (lN 0 ≤ a ∧ a ≤ lN 10000000000))) (τ) (some (.long (yearL τ (48 * x.toNatClampNeg + 24 * y.toNatClampNeg) z.toNatClampNeg a))) v M')) ar ss 0 0 (gA G)) 7 M 0 0 21 [(0, .ref mb), (1, .int x), (2, .int y), (3, .int z), (4, .long a)] [.int (bI (rng x 3 && rng z 24))] := by
    skip
    refine r_istore C (lo' := [(6, .int (bI (rng x 3 && rng z 24))), (0, .ref mb), (1, .int x), (2, .int y), (3, .int z), (4, .long a)]) dX12_yearTax_21 (by decide) rfl ?_
    refine r_aload_n C 1 dX12_yearTax_23 rfl rfl ?_
    have jn62 : V pp l ee ({ frames := 2, cells := 0, slots := 0, locals := 60 } : Room) ss mm ar bw mt cd G (MQ bw (Ke G (fun v M' => PP mb M τ (cd2 (rng x 3 && rng z 24) (inB y (lN 0) (lN 1) && decide (lN 0 ≤ a ∧ a ≤ lN 10000000000))) (τ) (some (.long (yearL τ (48 * x.toNatClampNeg + 24 * y.toNatClampNeg) z.toNatClampNeg a))) v M')) ar ss 0 0 (gA G)) 7 M 0 0 62 [(6, .int (bI (rng x 3 && rng z 24))), (0, .ref mb), (1, .int x), (2, .int y), (3, .int z), (4, .long a)] [.int (nI (cd2 (rng x 3 && rng z 24) (inB y (lN 0) (lN 1) && decide (lN 0 ≤ a ∧ a ≤ lN 10000000000)))), .ref mb] := by
      skip
      refine r_callV C hgX (ci := 14) ml_X12_227 im_X12_holds se_X12_holds rfl rfl hm.k (c_X12_holds l hfl G M mb hm (nI (cd2 (rng x 3 && rng z 24) (inB y (lN 0) (lN 1) && decide (lN 0 ≤ a ∧ a ≤ lN 10000000000))))) rfl (Nat.le_of_ble_eq_true rfl) ⟨Nat.le_of_ble_eq_true rfl, Nat.le_of_ble_eq_true rfl⟩ ⟨Nat.le_of_ble_eq_true rfl, Nat.le_of_ble_eq_true rfl⟩ dX12_yearTax_62 rfl ?_
      rintro _ _ ⟨rfl, rfl⟩
      refine V.eSt (st' := [.int (bI (decide (0 < nI (cd2 (rng x 3 && rng z 24) (inB y (lN 0) (lN 1) && decide (lN 0 ≤ a ∧ a ≤ lN 10000000000))))))]) rfl ?_
      refine V.ei (y := bI (decide ((cd2 (rng x 3 && rng z 24) (inB y (lN 0) (lN 1) && decide (lN 0 ≤ a ∧ a ≤ lN 10000000000))) ≠ 0))) (congrArg bI (hold_d (cd2_le _ _))) ?_
      have hfo := hfo.set0 67 (nI (cd2 (rng x 3 && rng z 24) (inB y (lN 0) (lN 1) && decide (lN 0 ≤ a ∧ a ≤ lN 10000000000)))) rfl
      have ht := ht.ws 67 (nI (cd2 (rng x 3 && rng z 24) (inB y (lN 0) (lN 1) && decide (lN 0 ≤ a ∧ a ≤ lN 10000000000)))) rfl rfl
      have htb := ((fOut.rf [67] mb _).set0 67 (nI (cd2 (rng x 3 && rng z 24) (inB y (lN 0) (lN 1) && decide (lN 0 ≤ a ∧ a ≤ lN 10000000000)))) rfl).tb rfl htb
      have h67 : mI (wI M mb 67 (nI (cd2 (rng x 3 && rng z 24) (inB y (lN 0) (lN 1) && decide (lN 0 ≤ a ∧ a ≤ lN 10000000000))))) mb 67 = nI (cd2 (rng x 3 && rng z 24) (inB y (lN 0) (lN 1) && decide (lN 0 ≤ a ∧ a ≤ lN 10000000000))) := up2_same _ _ _ _
      have hlb : LTB (wI M mb 67 (nI (cd2 (rng x 3 && rng z 24) (inB y (lN 0) (lN 1) && decide (lN 0 ≤ a ∧ a ≤ lN 10000000000))))) mb := hlb.ws 67 _
      refine r_if_eqB C (t := 74) dX12_yearTax_65 (by decide) (fun c65 => ?_) (fun c65 => ?_)
      · skip
        have c65d := of_decide_eq_false c65
        have hC : (cd2 (rng x 3 && rng z 24) (inB y (lN 0) (lN 1) && decide (lN 0 ≤ a ∧ a ≤ lN 10000000000))) = 0 := by have := c65d; omega
        obtain ⟨h1, h2⟩ := cd2_0 hC
        obtain ⟨hx, hz⟩ := Bool.and_eq_true_iff.mp h1
        obtain ⟨c, hc, e_x⟩ := rng_t hx
        obtain ⟨d, hd, e_z⟩ := rng_t hz
        obtain ⟨w, hw0, hw1, e_y⟩ := inB_N (by decide) (by decide) (Bool.and_eq_true_iff.mp h2).1
        refine V.eLo (lo' := [(6, .int (bI (rng x 3 && rng z 24))), (0, .ref mb), (1, .int (nI c)), (2, .int (nI w)), (3, .int (nI d)), (4, .long a)]) (by rw [e_x, e_y, e_z]) ?_
        refine r_aload_n C 1 dX12_yearTax_74 rfl rfl ?_
        refine r_iload_n C 2 dX12_yearTax_75 rfl rfl ?_
        refine r_iload_n C 3 dX12_yearTax_76 rfl rfl ?_
        refine r_iload_n C 4 dX12_yearTax_77 rfl rfl ?_
        refine r_lload C 5 dX12_yearTax_78 rfl ?_
        refine r_callV C hgX (ci := 14) ml_X12_357 im_X12_yearly se_X12_yearly rfl rfl (show mK (wI M mb 67 (nI (cd2 (rng x 3 && rng z 24) (inB y (lN 0) (lN 1) && decide (lN 0 ≤ a ∧ a ≤ lN 10000000000))))) mb = 14 + 1 from hm.k) (c_X12_yearly l hfl G (wI M mb 67 (nI (cd2 (rng x 3 && rng z 24) (inB y (lN 0) (lN 1) && decide (lN 0 ≤ a ∧ a ≤ lN 10000000000))))) mb τ hm ht hw c w d (by omega) (by omega) (by omega) (a)) rfl (Nat.le_of_ble_eq_true rfl) ⟨Nat.le_of_ble_eq_true rfl, Nat.le_of_ble_eq_true rfl⟩ ⟨Nat.le_of_ble_eq_true rfl, Nat.le_of_ble_eq_true rfl⟩ dX12_yearTax_80 rfl ?_
        rintro _ _ ⟨rfl, rfl⟩
        refine V.eSt (st' := [.long (yearL τ (48 * c + 24 * w) d a)]) rfl ?_
        exact r_lret C hr (⟨h67, hfo.mo, hlb, fun q => absurd hC q, fun _ => ⟨by rw [e_x, e_y, e_z, nI_clamp (n := c) (by omega), nI_clamp (n := w) (by omega), nI_clamp (n := d) (by omega)], ht, htb.cg rfl rfl (fun _ => ⟨rfl, rfl⟩) (fun _ => ⟨rfl, rfl⟩) (fun _ => ⟨rfl, rfl⟩) (fun _ => ⟨rfl, rfl⟩) (fun _ => ⟨rfl, rfl⟩) (fun _ => ⟨rfl, rfl⟩) (fun _ => ⟨rfl, rfl⟩) ⟩, by first | exact KD.i | exact KD.l | exact KD.n⟩) (by first | exact Nat.zero_le _ | decide) (by first | exact Nat.zero_le _ | decide) dX12_yearTax_83
      · skip
        have c65d := of_decide_eq_true c65
        have hC : (cd2 (rng x 3 && rng z 24) (inB y (lN 0) (lN 1) && decide (lN 0 ≤ a ∧ a ≤ lN 10000000000))) ≠ 0 := c65d
        refine r_ldc2 C (v := (-1)) kl_X12_275 dX12_yearTax_68 ?_
        refine r_goto C (t := 83) dX12_yearTax_71 (by decide) ?_
        exact r_lret C hr (⟨h67, hfo.mo, hlb, fun _ => ⟨ht, htb⟩, fun q => absurd q hC, by first | exact KD.i | exact KD.l | exact KD.n⟩) (by first | exact Nat.zero_le _ | decide) (by first | exact Nat.zero_le _ | decide) dX12_yearTax_83
    refine r_iload C 0 dX12_yearTax_24 rfl ?_
    refine r_if_neB C (t := 33) dX12_yearTax_26 (by decide) (fun c26 => ?_) (fun c26 => ?_)
    · skip
      refine r_aload_n C 1 dX12_yearTax_33 rfl rfl ?_
      refine r_iload_n C 3 dX12_yearTax_34 rfl rfl ?_
      refine r_i2l C dX12_yearTax_35 ?_
      refine r_lconst C (v := lN 0) dX12_yearTax_36 (by decide) ?_
      refine r_lconst C (v := lN 1) dX12_yearTax_37 (by decide) ?_
      refine r_callV C hgX (ci := 14) ml_X12_191 im_X12_in se_X12_in rfl rfl hm.k (c_X12_in l hfl G M mb y.toInt64 (lN 0) (lN 1)) rfl (Nat.le_of_ble_eq_true rfl) ⟨Nat.le_of_ble_eq_true rfl, Nat.le_of_ble_eq_true rfl⟩ ⟨Nat.le_of_ble_eq_true rfl, Nat.le_of_ble_eq_true rfl⟩ dX12_yearTax_38 rfl ?_
      rintro _ _ ⟨rfl, rfl⟩
      refine V.eSt (st' := [.int (bI (decide ((lN 0) ≤ y.toInt64 ∧ y.toInt64 ≤ (lN 1)))), .ref mb]) rfl ?_
      refine V.ei (y := bI (inB y (lN 0) (lN 1))) rfl ?_
      refine r_if_eqB C (t := 61) dX12_yearTax_41 (by decide) (fun c41 => ?_) (fun c41 => ?_)
      · skip
        refine r_iconst C (v := nI 2) dX12_yearTax_61 (by decide) ?_
        refine V.ei (y := nI (cd2 (rng x 3 && rng z 24) (inB y (lN 0) (lN 1) && decide (lN 0 ≤ a ∧ a ≤ lN 10000000000)))) (congrArg nI (by simp only [c26, c41] <;> rfl)) ?_
        exact jn62
      · skip
        refine r_aload_n C 1 dX12_yearTax_44 rfl rfl ?_
        refine r_lload C 5 dX12_yearTax_45 rfl ?_
        refine r_lconst C (v := lN 0) dX12_yearTax_47 (by decide) ?_
        refine r_ldc2 C (v := 10000000000) kl_X12_355 dX12_yearTax_48 ?_
        refine V.el (y := lN 10000000000) (by decide) ?_
        refine r_callV C hgX (ci := 14) ml_X12_191 im_X12_in se_X12_in rfl rfl hm.k (c_X12_in l hfl G M mb a (lN 0) (lN 10000000000)) rfl (Nat.le_of_ble_eq_true rfl) ⟨Nat.le_of_ble_eq_true rfl, Nat.le_of_ble_eq_true rfl⟩ ⟨Nat.le_of_ble_eq_true rfl, Nat.le_of_ble_eq_true rfl⟩ dX12_yearTax_51 rfl ?_
        rintro _ _ ⟨rfl, rfl⟩
        refine V.eSt (st' := [.int (bI (decide ((lN 0) ≤ a ∧ a ≤ (lN 10000000000)))), .ref mb]) rfl ?_
        refine r_if_eqB C (t := 61) dX12_yearTax_54 (by decide) (fun c54 => ?_) (fun c54 => ?_)
        · skip
          have c54d := of_decide_eq_false c54
          refine r_iconst C (v := nI 2) dX12_yearTax_61 (by decide) ?_
          refine V.ei (y := nI (cd2 (rng x 3 && rng z 24) (inB y (lN 0) (lN 1) && decide (lN 0 ≤ a ∧ a ≤ lN 10000000000)))) (congrArg nI (by simp only [c26, c41, c54] <;> rfl)) ?_
          exact jn62
        · skip
          have c54d := of_decide_eq_true c54
          refine r_iconst C (v := nI 0) dX12_yearTax_57 (by decide) ?_
          refine r_goto C (t := 62) dX12_yearTax_58 (by decide) ?_
          refine V.ei (y := nI (cd2 (rng x 3 && rng z 24) (inB y (lN 0) (lN 1) && decide (lN 0 ≤ a ∧ a ≤ lN 10000000000)))) (congrArg nI (by simp only [c26, c41, c54] <;> rfl)) ?_
          exact jn62
    · skip
      refine r_iconst C (v := nI 1) dX12_yearTax_29 (by decide) ?_
      refine r_goto C (t := 62) dX12_yearTax_30 (by decide) ?_
      refine V.ei (y := nI (cd2 (rng x 3 && rng z 24) (inB y (lN 0) (lN 1) && decide (lN 0 ≤ a ∧ a ≤ lN 10000000000)))) (congrArg nI (by simp only [c26] <;> rfl)) ?_
      exact jn62
  refine r_aload_n C 0 dX12_yearTax_0 rfl rfl ?_
  refine r_iload_n C 1 dX12_yearTax_1 rfl rfl ?_
  refine r_callV C hgX (ci := 14) ml_X12_215 im_X12_isPlace se_X12_isPlace rfl rfl hm.k (c_X12_isPlace l hfl G M mb hm x) rfl (Nat.le_of_ble_eq_true rfl) ⟨Nat.le_of_ble_eq_true rfl, Nat.le_of_ble_eq_true rfl⟩ ⟨Nat.le_of_ble_eq_true rfl, Nat.le_of_ble_eq_true rfl⟩ dX12_yearTax_2 rfl ?_
  rintro _ _ ⟨rfl, rfl⟩
  refine V.eSt (st' := [.int (bI (rng x 3))]) rfl ?_
  refine r_if_eqB C (t := 20) dX12_yearTax_5 (by decide) (fun c5 => ?_) (fun c5 => ?_)
  · skip
    refine r_iconst C (v := nI 0) dX12_yearTax_20 (by decide) ?_
    refine V.eSt (st' := [.int (bI false)]) rfl ?_
    refine V.ei (y := bI (rng x 3 && rng z 24)) (congrArg bI (by simp only [c5] <;> rfl)) ?_
    exact jn21
  · skip
    refine r_aload_n C 0 dX12_yearTax_8 rfl rfl ?_
    refine r_iload_n C 3 dX12_yearTax_9 rfl rfl ?_
    refine r_callV C hgX (ci := 14) ml_X12_272 im_X12_isMonth se_X12_isMonth rfl rfl hm.k (c_X12_isMonth l hfl G M mb hm z) rfl (Nat.le_of_ble_eq_true rfl) ⟨Nat.le_of_ble_eq_true rfl, Nat.le_of_ble_eq_true rfl⟩ ⟨Nat.le_of_ble_eq_true rfl, Nat.le_of_ble_eq_true rfl⟩ dX12_yearTax_10 rfl ?_
    rintro _ _ ⟨rfl, rfl⟩
    refine V.eSt (st' := [.int (bI (rng z 24))]) rfl ?_
    refine r_if_eqB C (t := 20) dX12_yearTax_13 (by decide) (fun c13 => ?_) (fun c13 => ?_)
    · skip
      refine r_iconst C (v := nI 0) dX12_yearTax_20 (by decide) ?_
      refine V.eSt (st' := [.int (bI false)]) rfl ?_
      refine V.ei (y := bI (rng x 3 && rng z 24)) (congrArg bI (by simp only [c5, c13] <;> rfl)) ?_
      exact jn21
    · skip
      refine r_iconst C (v := nI 1) dX12_yearTax_16 (by decide) ?_
      refine r_goto C (t := 21) dX12_yearTax_17 (by decide) ?_
      refine V.eSt (st' := [.int (bI true)]) rfl ?_
      refine V.ei (y := bI (rng x 3 && rng z 24)) (congrArg bI (by simp only [c5, c13] <;> rfl)) ?_
      exact jn21
