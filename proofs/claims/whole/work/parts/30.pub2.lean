set_option maxHeartbeats 4000000 in
set_option maxRecDepth 100000 in
theorem c_X12_garnish (l : Launch) (hfl : l.flags = flags0) (G : gW) (M : Mem) (mb : Nat) (τ : Mu) (hm : MOK (mK M) (mN M) (mR M) mb) (ht : TE (mI M) (mL M) mb τ) (hw : WF τ) (htb : TEb (mI M) (mL M) mb τ) (hlb : LTB M mb) (x y z t n u : Int32) : CT l yX12_garnish cX12_garnish 9 (some .int) 2 0 0 47 G M [.ref mb, .int x, .int y, .int z, .int t, .int n, .int u] (fun v M' => PP mb M τ (cd3 (rng x 6 && rng y 24) (inB z (lN 0) (lN 9) && inB t (lN 1) (lN 100000000) && inB n (lN 1) (lN 1000) && inB u (lN 0) (lN 100000000)) (decide (un τ 44 44 ≠ 6))) (sI (sI (sI (sI (sI (sI (sI τ 38 (un τ 44 44) x) 39 (un τ 44 44) y) 40 (un τ 44 44) z) 41 (un τ 44 44) t) 42 (un τ 44 44) n) 43 (un τ 44 44) u) 44 44 (nI (un τ 44 44 + 1))) (some (.int (nI (un τ 44 44)))) v M') := by
  refine CT.of hfl rfl (Nat.le_of_ble_eq_true rfl) ?_
  intro pp ee ss mm ar bw mt cd C hgX hr hini
  have hnc := hw.nc.2
  have hsh := hw.sh.2
  have hnl := hw.nl.2
  have hne := hw.ne.2
  have hng := hw.ng.2
  have hop := hw.op.2
  have hnp := hw.np.2
  have ht0 := ht
  have hm0 := hm
  have htb0 := htb
  have hfo := fOut.rf [67, 38, 39, 40, 41, 42, 43, 44] mb M
  refine V.eLo (lo' := [(0, .ref mb), (1, .int x), (2, .int y), (3, .int z), (4, .int t), (5, .int n), (6, .int u)]) rfl ?_
  have jn60 : V pp l ee ({ frames := 2, cells := 0, slots := 0, locals := 47 } : Room) ss mm ar bw mt cd G (MQ bw (Ke G (fun v M' => PP mb M τ (cd3 (rng x 6 && rng y 24) (inB z (lN 0) (lN 9) && inB t (lN 1) (lN 100000000) && inB n (lN 1) (lN 1000) && inB u (lN 0) (lN 100000000)) (decide (un τ 44 44 ≠ 6))) (sI (sI (sI (sI (sI (sI (sI τ 38 (un τ 44 44) x) 39 (un τ 44 44) y) 40 (un τ 44 44) z) 41 (un τ 44 44) t) 42 (un τ 44 44) n) 43 (un τ 44 44) u) 44 44 (nI (un τ 44 44 + 1))) (some (.int (nI (un τ 44 44)))) v M')) ar ss 0 0 (gA G)) 9 M 0 0 60 [(0, .ref mb), (1, .int x), (2, .int y), (3, .int z), (4, .int t), (5, .int n), (6, .int u)] [.int (bI (inB z (lN 0) (lN 9) && inB t (lN 1) (lN 100000000) && inB n (lN 1) (lN 1000) && inB u (lN 0) (lN 100000000)))] := by
    skip
    refine r_istore C (lo' := [(7, .int (bI (inB z (lN 0) (lN 9) && inB t (lN 1) (lN 100000000) && inB n (lN 1) (lN 1000) && inB u (lN 0) (lN 100000000)))), (0, .ref mb), (1, .int x), (2, .int y), (3, .int z), (4, .int t), (5, .int n), (6, .int u)]) dX12_garnish_60 (by decide) rfl ?_
    refine r_aload_n C 1 dX12_garnish_62 rfl rfl ?_
    have jn106 : V pp l ee ({ frames := 2, cells := 0, slots := 0, locals := 47 } : Room) ss mm ar bw mt cd G (MQ bw (Ke G (fun v M' => PP mb M τ (cd3 (rng x 6 && rng y 24) (inB z (lN 0) (lN 9) && inB t (lN 1) (lN 100000000) && inB n (lN 1) (lN 1000) && inB u (lN 0) (lN 100000000)) (decide (un τ 44 44 ≠ 6))) (sI (sI (sI (sI (sI (sI (sI τ 38 (un τ 44 44) x) 39 (un τ 44 44) y) 40 (un τ 44 44) z) 41 (un τ 44 44) t) 42 (un τ 44 44) n) 43 (un τ 44 44) u) 44 44 (nI (un τ 44 44 + 1))) (some (.int (nI (un τ 44 44)))) v M')) ar ss 0 0 (gA G)) 9 M 0 0 106 [(7, .int (bI (inB z (lN 0) (lN 9) && inB t (lN 1) (lN 100000000) && inB n (lN 1) (lN 1000) && inB u (lN 0) (lN 100000000)))), (0, .ref mb), (1, .int x), (2, .int y), (3, .int z), (4, .int t), (5, .int n), (6, .int u)] [.int (nI (cd3 (rng x 6 && rng y 24) (inB z (lN 0) (lN 9) && inB t (lN 1) (lN 100000000) && inB n (lN 1) (lN 1000) && inB u (lN 0) (lN 100000000)) (decide (un τ 44 44 ≠ 6)))), .ref mb] := by
      skip
      refine r_callV C hgX (ci := 14) ml_X12_227 im_X12_holds se_X12_holds rfl rfl hm.k (c_X12_holds l hfl G M mb hm (nI (cd3 (rng x 6 && rng y 24) (inB z (lN 0) (lN 9) && inB t (lN 1) (lN 100000000) && inB n (lN 1) (lN 1000) && inB u (lN 0) (lN 100000000)) (decide (un τ 44 44 ≠ 6))))) rfl (Nat.le_of_ble_eq_true rfl) ⟨Nat.le_of_ble_eq_true rfl, Nat.le_of_ble_eq_true rfl⟩ ⟨Nat.le_of_ble_eq_true rfl, Nat.le_of_ble_eq_true rfl⟩ dX12_garnish_106 rfl ?_
      rintro _ _ ⟨rfl, rfl⟩
      refine V.eSt (st' := [.int (bI (decide (0 < nI (cd3 (rng x 6 && rng y 24) (inB z (lN 0) (lN 9) && inB t (lN 1) (lN 100000000) && inB n (lN 1) (lN 1000) && inB u (lN 0) (lN 100000000)) (decide (un τ 44 44 ≠ 6))))))]) rfl ?_
      refine V.ei (y := bI (decide ((cd3 (rng x 6 && rng y 24) (inB z (lN 0) (lN 9) && inB t (lN 1) (lN 100000000) && inB n (lN 1) (lN 1000) && inB u (lN 0) (lN 100000000)) (decide (un τ 44 44 ≠ 6))) ≠ 0))) (congrArg bI (hold_d (cd3_le _ _ _))) ?_
      have hfo := hfo.set0 67 (nI (cd3 (rng x 6 && rng y 24) (inB z (lN 0) (lN 9) && inB t (lN 1) (lN 100000000) && inB n (lN 1) (lN 1000) && inB u (lN 0) (lN 100000000)) (decide (un τ 44 44 ≠ 6)))) rfl
      have ht := ht.ws 67 (nI (cd3 (rng x 6 && rng y 24) (inB z (lN 0) (lN 9) && inB t (lN 1) (lN 100000000) && inB n (lN 1) (lN 1000) && inB u (lN 0) (lN 100000000)) (decide (un τ 44 44 ≠ 6)))) rfl rfl
      have htb := ((fOut.rf [67] mb _).set0 67 (nI (cd3 (rng x 6 && rng y 24) (inB z (lN 0) (lN 9) && inB t (lN 1) (lN 100000000) && inB n (lN 1) (lN 1000) && inB u (lN 0) (lN 100000000)) (decide (un τ 44 44 ≠ 6)))) rfl).tb rfl htb
      have h67 : mI (wI M mb 67 (nI (cd3 (rng x 6 && rng y 24) (inB z (lN 0) (lN 9) && inB t (lN 1) (lN 100000000) && inB n (lN 1) (lN 1000) && inB u (lN 0) (lN 100000000)) (decide (un τ 44 44 ≠ 6))))) mb 67 = nI (cd3 (rng x 6 && rng y 24) (inB z (lN 0) (lN 9) && inB t (lN 1) (lN 100000000) && inB n (lN 1) (lN 1000) && inB u (lN 0) (lN 100000000)) (decide (un τ 44 44 ≠ 6))) := up2_same _ _ _ _
      have hlb : LTB (wI M mb 67 (nI (cd3 (rng x 6 && rng y 24) (inB z (lN 0) (lN 9) && inB t (lN 1) (lN 100000000) && inB n (lN 1) (lN 1000) && inB u (lN 0) (lN 100000000)) (decide (un τ 44 44 ≠ 6))))) mb := hlb.ws 67 _
      refine r_if_eqB C (t := 114) dX12_garnish_109 (by decide) (fun c109 => ?_) (fun c109 => ?_)
      · skip
        have c109d := of_decide_eq_false c109
        have hC : (cd3 (rng x 6 && rng y 24) (inB z (lN 0) (lN 9) && inB t (lN 1) (lN 100000000) && inB n (lN 1) (lN 1000) && inB u (lN 0) (lN 100000000)) (decide (un τ 44 44 ≠ 6))) = 0 := by have := c109d; omega
        obtain ⟨h1, h2, h3⟩ := cd3_0 hC
        have h3d := of_decide_eq_true h3
        refine r_aload_n C 1 dX12_garnish_114 rfl rfl ?_
        refine r_getI C fl_X12_371 rfl hm.k dX12_garnish_115 ?_
        refine V.ei (y := nI (un τ 44 44)) ((ht.s 44 rfl).trans hw.ng.1) ?_
        refine r_istore C (lo' := [(8, .int (nI (un τ 44 44))), (7, .int (bI (inB z (lN 0) (lN 9) && inB t (lN 1) (lN 100000000) && inB n (lN 1) (lN 1000) && inB u (lN 0) (lN 100000000)))), (0, .ref mb), (1, .int x), (2, .int y), (3, .int z), (4, .int t), (5, .int n), (6, .int u)]) dX12_garnish_118 (by decide) rfl ?_
        refine r_aload_n C 2 dX12_garnish_120 rfl rfl ?_
        refine r_getR C (b := (ma mb 38)) fl_X12_101 rfl hm.k (hm.r 38 rfl) dX12_garnish_121 ?_
        refine r_iload C 0 dX12_garnish_124 rfl ?_
        refine r_iload_n C 3 dX12_garnish_126 rfl rfl ?_
        refine r_iastoreN C (hm.i 38 20 rfl) (hm.n 38 6 rfl) (by omega) (by omega) dX12_garnish_127 ?_
        have htb := ((fOut.rf [38] mb _).setI 38 (un τ 44 44) x rfl).tb rfl htb
        have hlb : LTB (wI (wI M mb 67 (nI (cd3 (rng x 6 && rng y 24) (inB z (lN 0) (lN 9) && inB t (lN 1) (lN 100000000) && inB n (lN 1) (lN 1000) && inB u (lN 0) (lN 100000000)) (decide (un τ 44 44 ≠ 6))))) (ma mb 38) (un τ 44 44) x) mb := hlb.wi 38 _ _ rfl
        have hfo := hfo.setI 38 (un τ 44 44) x rfl
        have h67 : mI (wI (wI M mb 67 (nI (cd3 (rng x 6 && rng y 24) (inB z (lN 0) (lN 9) && inB t (lN 1) (lN 100000000) && inB n (lN 1) (lN 1000) && inB u (lN 0) (lN 100000000)) (decide (un τ 44 44 ≠ 6))))) (ma mb 38) (un τ 44 44) x) mb 67 = _ := (up2_a _ _ (ma_0 rfl).symm).trans h67
        have ht := ht.ui 38 (un τ 44 44) x rfl
        refine r_aload_n C 2 dX12_garnish_128 rfl rfl ?_
        refine r_getR C (b := (ma mb 39)) fl_X12_104 rfl hm.k (hm.r 39 rfl) dX12_garnish_129 ?_
        refine r_iload C 0 dX12_garnish_132 rfl ?_
        refine r_iload_n C 4 dX12_garnish_134 rfl rfl ?_
        refine r_iastoreN C (hm.i 39 20 rfl) (hm.n 39 6 rfl) (by omega) (by omega) dX12_garnish_135 ?_
        have htb := ((fOut.rf [39] mb _).setI 39 (un τ 44 44) y rfl).tb rfl htb
        have hlb : LTB (wI (wI (wI M mb 67 (nI (cd3 (rng x 6 && rng y 24) (inB z (lN 0) (lN 9) && inB t (lN 1) (lN 100000000) && inB n (lN 1) (lN 1000) && inB u (lN 0) (lN 100000000)) (decide (un τ 44 44 ≠ 6))))) (ma mb 38) (un τ 44 44) x) (ma mb 39) (un τ 44 44) y) mb := hlb.wi 39 _ _ rfl
        have hfo := hfo.setI 39 (un τ 44 44) y rfl
        have h67 : mI (wI (wI (wI M mb 67 (nI (cd3 (rng x 6 && rng y 24) (inB z (lN 0) (lN 9) && inB t (lN 1) (lN 100000000) && inB n (lN 1) (lN 1000) && inB u (lN 0) (lN 100000000)) (decide (un τ 44 44 ≠ 6))))) (ma mb 38) (un τ 44 44) x) (ma mb 39) (un τ 44 44) y) mb 67 = _ := (up2_a _ _ (ma_0 rfl).symm).trans h67
        have ht := ht.ui 39 (un τ 44 44) y rfl
        refine r_aload_n C 2 dX12_garnish_136 rfl rfl ?_
        refine r_getR C (b := (ma mb 40)) fl_X12_107 rfl hm.k (hm.r 40 rfl) dX12_garnish_137 ?_
        refine r_iload C 0 dX12_garnish_140 rfl ?_
        refine r_iload_n C 5 dX12_garnish_142 rfl rfl ?_
        refine r_iastoreN C (hm.i 40 20 rfl) (hm.n 40 6 rfl) (by omega) (by omega) dX12_garnish_143 ?_
        have htb := ((fOut.rf [40] mb _).setI 40 (un τ 44 44) z rfl).tb rfl htb
        have hlb : LTB (wI (wI (wI (wI M mb 67 (nI (cd3 (rng x 6 && rng y 24) (inB z (lN 0) (lN 9) && inB t (lN 1) (lN 100000000) && inB n (lN 1) (lN 1000) && inB u (lN 0) (lN 100000000)) (decide (un τ 44 44 ≠ 6))))) (ma mb 38) (un τ 44 44) x) (ma mb 39) (un τ 44 44) y) (ma mb 40) (un τ 44 44) z) mb := hlb.wi 40 _ _ rfl
        have hfo := hfo.setI 40 (un τ 44 44) z rfl
        have h67 : mI (wI (wI (wI (wI M mb 67 (nI (cd3 (rng x 6 && rng y 24) (inB z (lN 0) (lN 9) && inB t (lN 1) (lN 100000000) && inB n (lN 1) (lN 1000) && inB u (lN 0) (lN 100000000)) (decide (un τ 44 44 ≠ 6))))) (ma mb 38) (un τ 44 44) x) (ma mb 39) (un τ 44 44) y) (ma mb 40) (un τ 44 44) z) mb 67 = _ := (up2_a _ _ (ma_0 rfl).symm).trans h67
        have ht := ht.ui 40 (un τ 44 44) z rfl
        refine r_aload_n C 2 dX12_garnish_144 rfl rfl ?_
        refine r_getR C (b := (ma mb 41)) fl_X12_110 rfl hm.k (hm.r 41 rfl) dX12_garnish_145 ?_
        refine r_iload C 0 dX12_garnish_148 rfl ?_
        refine r_iload C 6 dX12_garnish_150 rfl ?_
        refine r_iastoreN C (hm.i 41 20 rfl) (hm.n 41 6 rfl) (by omega) (by omega) dX12_garnish_152 ?_
        have htb := ((fOut.rf [41] mb _).setI 41 (un τ 44 44) t rfl).tb rfl htb
        have hlb : LTB (wI (wI (wI (wI (wI M mb 67 (nI (cd3 (rng x 6 && rng y 24) (inB z (lN 0) (lN 9) && inB t (lN 1) (lN 100000000) && inB n (lN 1) (lN 1000) && inB u (lN 0) (lN 100000000)) (decide (un τ 44 44 ≠ 6))))) (ma mb 38) (un τ 44 44) x) (ma mb 39) (un τ 44 44) y) (ma mb 40) (un τ 44 44) z) (ma mb 41) (un τ 44 44) t) mb := hlb.wi 41 _ _ rfl
        have hfo := hfo.setI 41 (un τ 44 44) t rfl
        have h67 : mI (wI (wI (wI (wI (wI M mb 67 (nI (cd3 (rng x 6 && rng y 24) (inB z (lN 0) (lN 9) && inB t (lN 1) (lN 100000000) && inB n (lN 1) (lN 1000) && inB u (lN 0) (lN 100000000)) (decide (un τ 44 44 ≠ 6))))) (ma mb 38) (un τ 44 44) x) (ma mb 39) (un τ 44 44) y) (ma mb 40) (un τ 44 44) z) (ma mb 41) (un τ 44 44) t) mb 67 = _ := (up2_a _ _ (ma_0 rfl).symm).trans h67
        have ht := ht.ui 41 (un τ 44 44) t rfl
        refine r_aload_n C 2 dX12_garnish_153 rfl rfl ?_
        refine r_getR C (b := (ma mb 42)) fl_X12_113 rfl hm.k (hm.r 42 rfl) dX12_garnish_154 ?_
        refine r_iload C 0 dX12_garnish_157 rfl ?_
        refine r_iload C 7 dX12_garnish_159 rfl ?_
        refine r_iastoreN C (hm.i 42 20 rfl) (hm.n 42 6 rfl) (by omega) (by omega) dX12_garnish_161 ?_
        have htb := ((fOut.rf [42] mb _).setI 42 (un τ 44 44) n rfl).tb rfl htb
        have hlb : LTB (wI (wI (wI (wI (wI (wI M mb 67 (nI (cd3 (rng x 6 && rng y 24) (inB z (lN 0) (lN 9) && inB t (lN 1) (lN 100000000) && inB n (lN 1) (lN 1000) && inB u (lN 0) (lN 100000000)) (decide (un τ 44 44 ≠ 6))))) (ma mb 38) (un τ 44 44) x) (ma mb 39) (un τ 44 44) y) (ma mb 40) (un τ 44 44) z) (ma mb 41) (un τ 44 44) t) (ma mb 42) (un τ 44 44) n) mb := hlb.wi 42 _ _ rfl
        have hfo := hfo.setI 42 (un τ 44 44) n rfl
        have h67 : mI (wI (wI (wI (wI (wI (wI M mb 67 (nI (cd3 (rng x 6 && rng y 24) (inB z (lN 0) (lN 9) && inB t (lN 1) (lN 100000000) && inB n (lN 1) (lN 1000) && inB u (lN 0) (lN 100000000)) (decide (un τ 44 44 ≠ 6))))) (ma mb 38) (un τ 44 44) x) (ma mb 39) (un τ 44 44) y) (ma mb 40) (un τ 44 44) z) (ma mb 41) (un τ 44 44) t) (ma mb 42) (un τ 44 44) n) mb 67 = _ := (up2_a _ _ (ma_0 rfl).symm).trans h67
        have ht := ht.ui 42 (un τ 44 44) n rfl
        refine r_aload_n C 2 dX12_garnish_162 rfl rfl ?_
        refine r_getR C (b := (ma mb 43)) fl_X12_116 rfl hm.k (hm.r 43 rfl) dX12_garnish_163 ?_
        refine r_iload C 0 dX12_garnish_166 rfl ?_
        refine r_iload C 8 dX12_garnish_168 rfl ?_
        refine r_iastoreN C (hm.i 43 20 rfl) (hm.n 43 6 rfl) (by omega) (by omega) dX12_garnish_170 ?_
        have htb := ((fOut.rf [43] mb _).setI 43 (un τ 44 44) u rfl).tb rfl htb
        have hlb : LTB (wI (wI (wI (wI (wI (wI (wI M mb 67 (nI (cd3 (rng x 6 && rng y 24) (inB z (lN 0) (lN 9) && inB t (lN 1) (lN 100000000) && inB n (lN 1) (lN 1000) && inB u (lN 0) (lN 100000000)) (decide (un τ 44 44 ≠ 6))))) (ma mb 38) (un τ 44 44) x) (ma mb 39) (un τ 44 44) y) (ma mb 40) (un τ 44 44) z) (ma mb 41) (un τ 44 44) t) (ma mb 42) (un τ 44 44) n) (ma mb 43) (un τ 44 44) u) mb := hlb.wi 43 _ _ rfl
        have hfo := hfo.setI 43 (un τ 44 44) u rfl
        have h67 : mI (wI (wI (wI (wI (wI (wI (wI M mb 67 (nI (cd3 (rng x 6 && rng y 24) (inB z (lN 0) (lN 9) && inB t (lN 1) (lN 100000000) && inB n (lN 1) (lN 1000) && inB u (lN 0) (lN 100000000)) (decide (un τ 44 44 ≠ 6))))) (ma mb 38) (un τ 44 44) x) (ma mb 39) (un τ 44 44) y) (ma mb 40) (un τ 44 44) z) (ma mb 41) (un τ 44 44) t) (ma mb 42) (un τ 44 44) n) (ma mb 43) (un τ 44 44) u) mb 67 = _ := (up2_a _ _ (ma_0 rfl).symm).trans h67
        have ht := ht.ui 43 (un τ 44 44) u rfl
        refine r_aload_n C 2 dX12_garnish_171 rfl rfl ?_
        refine r_dup C dX12_garnish_172 rfl ?_
        refine r_getI C fl_X12_371 rfl hm.k dX12_garnish_173 ?_
        refine V.ei (y := nI (un τ 44 44)) ((ht.s 44 rfl).trans hw.ng.1) ?_
        refine r_iconst C (v := nI 1) dX12_garnish_176 (by decide) ?_
        refine r_iaddN C dX12_garnish_177 ?_
        refine r_putI C fl_X12_371 hm.k dX12_garnish_178 ?_
        have htb := ((fOut.rf [44] mb _).set0 44 (nI (un τ 44 44 + 1)) rfl).tb rfl htb
        have hlb : LTB (wI (wI (wI (wI (wI (wI (wI (wI M mb 67 (nI (cd3 (rng x 6 && rng y 24) (inB z (lN 0) (lN 9) && inB t (lN 1) (lN 100000000) && inB n (lN 1) (lN 1000) && inB u (lN 0) (lN 100000000)) (decide (un τ 44 44 ≠ 6))))) (ma mb 38) (un τ 44 44) x) (ma mb 39) (un τ 44 44) y) (ma mb 40) (un τ 44 44) z) (ma mb 41) (un τ 44 44) t) (ma mb 42) (un τ 44 44) n) (ma mb 43) (un τ 44 44) u) mb 44 (nI (un τ 44 44 + 1))) mb := hlb.ws 44 _
        have hfo := hfo.set0 44 (nI (un τ 44 44 + 1)) rfl
        have h67 : mI (wI (wI (wI (wI (wI (wI (wI (wI M mb 67 (nI (cd3 (rng x 6 && rng y 24) (inB z (lN 0) (lN 9) && inB t (lN 1) (lN 100000000) && inB n (lN 1) (lN 1000) && inB u (lN 0) (lN 100000000)) (decide (un τ 44 44 ≠ 6))))) (ma mb 38) (un τ 44 44) x) (ma mb 39) (un τ 44 44) y) (ma mb 40) (un τ 44 44) z) (ma mb 41) (un τ 44 44) t) (ma mb 42) (un τ 44 44) n) (ma mb 43) (un τ 44 44) u) mb 44 (nI (un τ 44 44 + 1))) mb 67 = _ := (up2_k _ _ (by decide)).trans h67
        have ht := ht.us 44 (nI (un τ 44 44 + 1)) rfl
        refine r_iload C 0 dX12_garnish_181 rfl ?_
        exact r_iret C hr (⟨h67, hfo.mo, hlb, fun q => absurd hC q, fun _ => ⟨rfl, ht, htb.cg rfl rfl (fun _ => ⟨rfl, rfl⟩) (fun _ => ⟨rfl, rfl⟩) (fun _ => ⟨rfl, rfl⟩) (fun _ => ⟨rfl, rfl⟩) (fun _ => ⟨rfl, rfl⟩) (fun _ => ⟨rfl, rfl⟩) (fun _ => ⟨rfl, rfl⟩) ⟩, by first | exact KD.i | exact KD.l | exact KD.n⟩) (by first | exact Nat.zero_le _ | decide) (by first | exact Nat.zero_le _ | decide) dX12_garnish_183
      · skip
        have c109d := of_decide_eq_true c109
        have hC : (cd3 (rng x 6 && rng y 24) (inB z (lN 0) (lN 9) && inB t (lN 1) (lN 100000000) && inB n (lN 1) (lN 1000) && inB u (lN 0) (lN 100000000)) (decide (un τ 44 44 ≠ 6))) ≠ 0 := c109d
        refine r_iconst C (v := (-1)) dX12_garnish_112 (by decide) ?_
        exact r_iret C hr (⟨h67, hfo.mo, hlb, fun _ => ⟨ht, htb⟩, fun q => absurd q hC, by first | exact KD.i | exact KD.l | exact KD.n⟩) (by first | exact Nat.zero_le _ | decide) (by first | exact Nat.zero_le _ | decide) dX12_garnish_113
    refine r_aload_n C 1 dX12_garnish_63 rfl rfl ?_
    refine r_iload_n C 2 dX12_garnish_64 rfl rfl ?_
    refine r_callV C hgX (ci := 14) ml_X12_212 im_X12_isPerson se_X12_isPerson rfl rfl hm.k (c_X12_isPerson l hfl G M mb hm x) rfl (Nat.le_of_ble_eq_true rfl) ⟨Nat.le_of_ble_eq_true rfl, Nat.le_of_ble_eq_true rfl⟩ ⟨Nat.le_of_ble_eq_true rfl, Nat.le_of_ble_eq_true rfl⟩ dX12_garnish_65 rfl ?_
    rintro _ _ ⟨rfl, rfl⟩
    refine V.eSt (st' := [.int (bI (rng x 6)), .ref mb]) rfl ?_
    refine r_if_eqB C (t := 79) dX12_garnish_68 (by decide) (fun c68 => ?_) (fun c68 => ?_)
    · skip
      refine r_iconst C (v := nI 1) dX12_garnish_79 (by decide) ?_
      refine r_goto C (t := 106) dX12_garnish_80 (by decide) ?_
      refine V.ei (y := nI (cd3 (rng x 6 && rng y 24) (inB z (lN 0) (lN 9) && inB t (lN 1) (lN 100000000) && inB n (lN 1) (lN 1000) && inB u (lN 0) (lN 100000000)) (decide (un τ 44 44 ≠ 6)))) (congrArg nI (by simp only [c68] <;> rfl)) ?_
      exact jn106
    · skip
      refine r_aload_n C 1 dX12_garnish_71 rfl rfl ?_
      refine r_iload_n C 3 dX12_garnish_72 rfl rfl ?_
      refine r_callV C hgX (ci := 14) ml_X12_272 im_X12_isMonth se_X12_isMonth rfl rfl hm.k (c_X12_isMonth l hfl G M mb hm y) rfl (Nat.le_of_ble_eq_true rfl) ⟨Nat.le_of_ble_eq_true rfl, Nat.le_of_ble_eq_true rfl⟩ ⟨Nat.le_of_ble_eq_true rfl, Nat.le_of_ble_eq_true rfl⟩ dX12_garnish_73 rfl ?_
      rintro _ _ ⟨rfl, rfl⟩
      refine V.eSt (st' := [.int (bI (rng y 24)), .ref mb]) rfl ?_
      refine r_if_neB C (t := 83) dX12_garnish_76 (by decide) (fun c76 => ?_) (fun c76 => ?_)
      · skip
        refine r_iload C 0 dX12_garnish_83 rfl ?_
        refine r_if_neB C (t := 92) dX12_garnish_85 (by decide) (fun c85 => ?_) (fun c85 => ?_)
        · skip
          refine r_aload_n C 1 dX12_garnish_92 rfl rfl ?_
          refine r_getI C fl_X12_371 rfl hm.k dX12_garnish_93 ?_
          refine V.ei (y := nI (un τ 44 44)) ((ht.s 44 rfl).trans hw.ng.1) ?_
          refine r_bipush C (v := nI 6) dX12_garnish_96 (by decide) ?_
          refine r_icmp_neN C (t := 105) (by omega) (by omega) dX12_garnish_98 (by decide) (fun c98 => ?_) (fun c98 => ?_)
          · skip
            refine r_iconst C (v := nI 0) dX12_garnish_105 (by decide) ?_
            refine V.ei (y := nI (cd3 (rng x 6 && rng y 24) (inB z (lN 0) (lN 9) && inB t (lN 1) (lN 100000000) && inB n (lN 1) (lN 1000) && inB u (lN 0) (lN 100000000)) (decide (un τ 44 44 ≠ 6)))) (congrArg nI (by simp only [c68, c76, c85, decide_eq_true c98] <;> rfl)) ?_
            exact jn106
          · skip
            refine r_iconst C (v := nI 3) dX12_garnish_101 (by decide) ?_
            refine r_goto C (t := 106) dX12_garnish_102 (by decide) ?_
            refine V.ei (y := nI (cd3 (rng x 6 && rng y 24) (inB z (lN 0) (lN 9) && inB t (lN 1) (lN 100000000) && inB n (lN 1) (lN 1000) && inB u (lN 0) (lN 100000000)) (decide (un τ 44 44 ≠ 6)))) (congrArg nI (by simp only [c68, c76, c85, show decide (un τ 44 44 ≠ 6) = false from decide_eq_false (fun q => q c98)] <;> rfl)) ?_
            exact jn106
        · skip
          refine r_iconst C (v := nI 2) dX12_garnish_88 (by decide) ?_
          refine r_goto C (t := 106) dX12_garnish_89 (by decide) ?_
          refine V.ei (y := nI (cd3 (rng x 6 && rng y 24) (inB z (lN 0) (lN 9) && inB t (lN 1) (lN 100000000) && inB n (lN 1) (lN 1000) && inB u (lN 0) (lN 100000000)) (decide (un τ 44 44 ≠ 6)))) (congrArg nI (by simp only [c68, c76, c85] <;> rfl)) ?_
          exact jn106
      · skip
        refine r_iconst C (v := nI 1) dX12_garnish_79 (by decide) ?_
        refine r_goto C (t := 106) dX12_garnish_80 (by decide) ?_
        refine V.ei (y := nI (cd3 (rng x 6 && rng y 24) (inB z (lN 0) (lN 9) && inB t (lN 1) (lN 100000000) && inB n (lN 1) (lN 1000) && inB u (lN 0) (lN 100000000)) (decide (un τ 44 44 ≠ 6)))) (congrArg nI (by simp only [c68, c76] <;> rfl)) ?_
        exact jn106
  refine r_aload_n C 0 dX12_garnish_0 rfl rfl ?_
  refine r_iload_n C 3 dX12_garnish_1 rfl rfl ?_
  refine r_i2l C dX12_garnish_2 ?_
  refine r_lconst C (v := lN 0) dX12_garnish_3 (by decide) ?_
  refine r_ldc2 C (v := 9) kl_X12_305 dX12_garnish_4 ?_
  refine V.el (y := lN 9) (by decide) ?_
  refine r_callV C hgX (ci := 14) ml_X12_191 im_X12_in se_X12_in rfl rfl hm.k (c_X12_in l hfl G M mb z.toInt64 (lN 0) (lN 9)) rfl (Nat.le_of_ble_eq_true rfl) ⟨Nat.le_of_ble_eq_true rfl, Nat.le_of_ble_eq_true rfl⟩ ⟨Nat.le_of_ble_eq_true rfl, Nat.le_of_ble_eq_true rfl⟩ dX12_garnish_7 rfl ?_
  rintro _ _ ⟨rfl, rfl⟩
  refine V.eSt (st' := [.int (bI (decide ((lN 0) ≤ z.toInt64 ∧ z.toInt64 ≤ (lN 9))))]) rfl ?_
  refine V.ei (y := bI (inB z (lN 0) (lN 9))) rfl ?_
  refine r_if_eqB C (t := 59) dX12_garnish_10 (by decide) (fun c10 => ?_) (fun c10 => ?_)
  · skip
    refine r_iconst C (v := nI 0) dX12_garnish_59 (by decide) ?_
    refine V.eSt (st' := [.int (bI false)]) rfl ?_
    refine V.ei (y := bI (inB z (lN 0) (lN 9) && inB t (lN 1) (lN 100000000) && inB n (lN 1) (lN 1000) && inB u (lN 0) (lN 100000000))) (congrArg bI (by simp only [c10] <;> rfl)) ?_
    exact jn60
  · skip
    refine r_aload_n C 0 dX12_garnish_13 rfl rfl ?_
    refine r_iload C 4 dX12_garnish_14 rfl ?_
    refine r_i2l C dX12_garnish_16 ?_
    refine r_lconst C (v := lN 1) dX12_garnish_17 (by decide) ?_
    refine r_ldc2 C (v := 100000000) kl_X12_327 dX12_garnish_18 ?_
    refine V.el (y := lN 100000000) (by decide) ?_
    refine r_callV C hgX (ci := 14) ml_X12_191 im_X12_in se_X12_in rfl rfl hm.k (c_X12_in l hfl G M mb t.toInt64 (lN 1) (lN 100000000)) rfl (Nat.le_of_ble_eq_true rfl) ⟨Nat.le_of_ble_eq_true rfl, Nat.le_of_ble_eq_true rfl⟩ ⟨Nat.le_of_ble_eq_true rfl, Nat.le_of_ble_eq_true rfl⟩ dX12_garnish_21 rfl ?_
    rintro _ _ ⟨rfl, rfl⟩
    refine V.eSt (st' := [.int (bI (decide ((lN 1) ≤ t.toInt64 ∧ t.toInt64 ≤ (lN 100000000))))]) rfl ?_
    refine V.ei (y := bI (inB t (lN 1) (lN 100000000))) rfl ?_
    refine r_if_eqB C (t := 59) dX12_garnish_24 (by decide) (fun c24 => ?_) (fun c24 => ?_)
    · skip
      refine r_iconst C (v := nI 0) dX12_garnish_59 (by decide) ?_
      refine V.eSt (st' := [.int (bI false)]) rfl ?_
      refine V.ei (y := bI (inB z (lN 0) (lN 9) && inB t (lN 1) (lN 100000000) && inB n (lN 1) (lN 1000) && inB u (lN 0) (lN 100000000))) (congrArg bI (by simp only [c10, c24] <;> rfl)) ?_
      exact jn60
    · skip
      refine r_aload_n C 0 dX12_garnish_27 rfl rfl ?_
      refine r_iload C 5 dX12_garnish_28 rfl ?_
      refine r_i2l C dX12_garnish_30 ?_
      refine r_lconst C (v := lN 1) dX12_garnish_31 (by decide) ?_
      refine r_ldc2 C (v := 1000) kl_X12_331 dX12_garnish_32 ?_
      refine V.el (y := lN 1000) (by decide) ?_
      refine r_callV C hgX (ci := 14) ml_X12_191 im_X12_in se_X12_in rfl rfl hm.k (c_X12_in l hfl G M mb n.toInt64 (lN 1) (lN 1000)) rfl (Nat.le_of_ble_eq_true rfl) ⟨Nat.le_of_ble_eq_true rfl, Nat.le_of_ble_eq_true rfl⟩ ⟨Nat.le_of_ble_eq_true rfl, Nat.le_of_ble_eq_true rfl⟩ dX12_garnish_35 rfl ?_
      rintro _ _ ⟨rfl, rfl⟩
      refine V.eSt (st' := [.int (bI (decide ((lN 1) ≤ n.toInt64 ∧ n.toInt64 ≤ (lN 1000))))]) rfl ?_
      refine V.ei (y := bI (inB n (lN 1) (lN 1000))) rfl ?_
      refine r_if_eqB C (t := 59) dX12_garnish_38 (by decide) (fun c38 => ?_) (fun c38 => ?_)
      · skip
        refine r_iconst C (v := nI 0) dX12_garnish_59 (by decide) ?_
        refine V.eSt (st' := [.int (bI false)]) rfl ?_
        refine V.ei (y := bI (inB z (lN 0) (lN 9) && inB t (lN 1) (lN 100000000) && inB n (lN 1) (lN 1000) && inB u (lN 0) (lN 100000000))) (congrArg bI (by simp only [c10, c24, c38] <;> rfl)) ?_
        exact jn60
      · skip
        refine r_aload_n C 0 dX12_garnish_41 rfl rfl ?_
        refine r_iload C 6 dX12_garnish_42 rfl ?_
        refine r_i2l C dX12_garnish_44 ?_
        refine r_lconst C (v := lN 0) dX12_garnish_45 (by decide) ?_
        refine r_ldc2 C (v := 100000000) kl_X12_327 dX12_garnish_46 ?_
        refine V.el (y := lN 100000000) (by decide) ?_
        refine r_callV C hgX (ci := 14) ml_X12_191 im_X12_in se_X12_in rfl rfl hm.k (c_X12_in l hfl G M mb u.toInt64 (lN 0) (lN 100000000)) rfl (Nat.le_of_ble_eq_true rfl) ⟨Nat.le_of_ble_eq_true rfl, Nat.le_of_ble_eq_true rfl⟩ ⟨Nat.le_of_ble_eq_true rfl, Nat.le_of_ble_eq_true rfl⟩ dX12_garnish_49 rfl ?_
        rintro _ _ ⟨rfl, rfl⟩
        refine V.eSt (st' := [.int (bI (decide ((lN 0) ≤ u.toInt64 ∧ u.toInt64 ≤ (lN 100000000))))]) rfl ?_
        refine V.ei (y := bI (inB u (lN 0) (lN 100000000))) rfl ?_
        refine r_if_eqB C (t := 59) dX12_garnish_52 (by decide) (fun c52 => ?_) (fun c52 => ?_)
        · skip
          refine r_iconst C (v := nI 0) dX12_garnish_59 (by decide) ?_
          refine V.eSt (st' := [.int (bI false)]) rfl ?_
          refine V.ei (y := bI (inB z (lN 0) (lN 9) && inB t (lN 1) (lN 100000000) && inB n (lN 1) (lN 1000) && inB u (lN 0) (lN 100000000))) (congrArg bI (by simp only [c10, c24, c38, c52] <;> rfl)) ?_
          exact jn60
        · skip
          refine r_iconst C (v := nI 1) dX12_garnish_55 (by decide) ?_
          refine r_goto C (t := 60) dX12_garnish_56 (by decide) ?_
          refine V.eSt (st' := [.int (bI true)]) rfl ?_
          refine V.ei (y := bI (inB z (lN 0) (lN 9) && inB t (lN 1) (lN 100000000) && inB n (lN 1) (lN 1000) && inB u (lN 0) (lN 100000000))) (congrArg bI (by simp only [c10, c24, c38, c52] <;> rfl)) ?_
          exact jn60
set_option maxHeartbeats 4000000 in
set_option maxRecDepth 100000 in
theorem c_X12_takenBy (l : Launch) (hfl : l.flags = flags0) (G : gW) (M : Mem) (mb : Nat) (τ : Mu) (hm : MOK (mK M) (mN M) (mR M) mb) (ht : TE (mI M) (mL M) mb τ) (hw : WF τ) (htb : TEb (mI M) (mL M) mb τ) (hlb : LTB M mb) (x y : Int32) : CT l yX12_takenBy cX12_takenBy 3 (some .long) 6 0 0 164 G M [.ref mb, .int x, .int y] (fun v M' => PP mb M τ (cd1 (rng x (un τ 44 44) && rng y 24)) (τ) (some (.long (hadL τ (un τ 38 x.toNatClampNeg) (y.toNatClampNeg + 1) x.toNatClampNeg))) v M') := by
  refine CT.of hfl rfl (Nat.le_of_ble_eq_true rfl) ?_
  intro pp ee ss mm ar bw mt cd C hgX hr hini
  have hnc := hw.nc.2
  have hsh := hw.sh.2
  have hnl := hw.nl.2
  have hne := hw.ne.2
  have hng := hw.ng.2
  have hop := hw.op.2
  have hnp := hw.np.2
  have ht0 := ht
  have hm0 := hm
  have htb0 := htb
  have hfo := fOut.rf [67, 16, 21, 28, 29, 55, 56, 57, 58, 59, 60, 61, 62, 63, 64, 65, 66] mb M
  refine V.eLo (lo' := [(0, .ref mb), (1, .int x), (2, .int y)]) rfl ?_
  refine r_aload_n C 0 dX12_takenBy_0 rfl rfl ?_
  have jn31 : V pp l ee ({ frames := 6, cells := 0, slots := 0, locals := 164 } : Room) ss mm ar bw mt cd G (MQ bw (Ke G (fun v M' => PP mb M τ (cd1 (rng x (un τ 44 44) && rng y 24)) (τ) (some (.long (hadL τ (un τ 38 x.toNatClampNeg) (y.toNatClampNeg + 1) x.toNatClampNeg))) v M')) ar ss 0 0 (gA G)) 3 M 0 0 31 [(0, .ref mb), (1, .int x), (2, .int y)] [.int (nI (cd1 (rng x (un τ 44 44) && rng y 24))), .ref mb] := by
    skip
    refine r_callV C hgX (ci := 14) ml_X12_227 im_X12_holds se_X12_holds rfl rfl hm.k (c_X12_holds l hfl G M mb hm (nI (cd1 (rng x (un τ 44 44) && rng y 24)))) rfl (Nat.le_of_ble_eq_true rfl) ⟨Nat.le_of_ble_eq_true rfl, Nat.le_of_ble_eq_true rfl⟩ ⟨Nat.le_of_ble_eq_true rfl, Nat.le_of_ble_eq_true rfl⟩ dX12_takenBy_31 rfl ?_
    rintro _ _ ⟨rfl, rfl⟩
    refine V.eSt (st' := [.int (bI (decide (0 < nI (cd1 (rng x (un τ 44 44) && rng y 24)))))]) rfl ?_
    refine V.ei (y := bI (decide ((cd1 (rng x (un τ 44 44) && rng y 24)) ≠ 0))) (congrArg bI (hold_d (cd1_le _))) ?_
    have hfo := hfo.set0 67 (nI (cd1 (rng x (un τ 44 44) && rng y 24))) rfl
    have ht := ht.ws 67 (nI (cd1 (rng x (un τ 44 44) && rng y 24))) rfl rfl
    have htb := ((fOut.rf [67] mb _).set0 67 (nI (cd1 (rng x (un τ 44 44) && rng y 24))) rfl).tb rfl htb
    have h67 : mI (wI M mb 67 (nI (cd1 (rng x (un τ 44 44) && rng y 24)))) mb 67 = nI (cd1 (rng x (un τ 44 44) && rng y 24)) := up2_same _ _ _ _
    have hlb : LTB (wI M mb 67 (nI (cd1 (rng x (un τ 44 44) && rng y 24)))) mb := hlb.ws 67 _
    refine r_if_eqB C (t := 41) dX12_takenBy_34 (by decide) (fun c34 => ?_) (fun c34 => ?_)
    · skip
      have c34d := of_decide_eq_false c34
      have hC : (cd1 (rng x (un τ 44 44) && rng y 24)) = 0 := by have := c34d; omega
      obtain ⟨hx, hy⟩ := Bool.and_eq_true_iff.mp (cd1_0 hC)
      obtain ⟨c, hc, e_x⟩ := rng_t hx
      obtain ⟨d, hd, e_y⟩ := rng_t hy
      refine V.eLo (lo' := [(0, .ref mb), (1, .int (nI c)), (2, .int (nI d))]) (by rw [e_x, e_y]) ?_
      refine r_aload_n C 0 dX12_takenBy_41 rfl rfl ?_
      refine r_aload_n C 0 dX12_takenBy_42 rfl rfl ?_
      refine r_getR C (b := (ma mb 38)) fl_X12_101 rfl hm.k (hm.r 38 rfl) dX12_takenBy_43 ?_
      refine r_iload_n C 1 dX12_takenBy_46 rfl rfl ?_
      refine r_ialoadN C (hm.i 38 20 rfl) (hm.n 38 6 rfl) (by omega) (by omega) dX12_takenBy_47 ?_
      refine V.ei (y := nI (un τ 38 c)) ((ht.i 38 rfl _).trans (hw.gw c (by omega)).1) ?_
      have hb0 := (hw.gw c (by omega)).2
      refine r_callV C hgX (ci := 14) ml_X12_389 im_X12_slips se_X12_slips rfl rfl (show mK (wI M mb 67 (nI (cd1 (rng x (un τ 44 44) && rng y 24)))) mb = 14 + 1 from hm.k) (c_X12_slips l hfl G (wI M mb 67 (nI (cd1 (rng x (un τ 44 44) && rng y 24)))) mb τ hm ht hw (un τ 38 c) (by omega) (hlb)) rfl (Nat.le_of_ble_eq_true rfl) ⟨Nat.le_of_ble_eq_true rfl, Nat.le_of_ble_eq_true rfl⟩ ⟨Nat.le_of_ble_eq_true rfl, Nat.le_of_ble_eq_true rfl⟩ dX12_takenBy_48 rfl ?_
      rintro _ My2 ⟨rfl, hfo2, hbk2, hlb2⟩
      have hm := hfo2.ok hm
      have ht := hfo2.te rfl ht
      have htb := hfo2.tb rfl htb
      have h67 := (hfo2.s 67 rfl).trans h67
      have hfo := hfo.tr (hfo2.mono rfl)
      have hlb := hlb2
      have hbk := hbk2
      refine r_aload_n C 0 dX12_takenBy_51 rfl rfl ?_
      refine r_getR C (b := (ma mb 66)) fl_X12_176 rfl hm.k (hm.r 66 rfl) dX12_takenBy_52 ?_
      refine r_bipush C (v := nI 24) dX12_takenBy_55 (by decide) ?_
      refine r_iload_n C 1 dX12_takenBy_57 rfl rfl ?_
      refine r_imulN C dX12_takenBy_58 ?_
      refine r_iload_n C 2 dX12_takenBy_59 rfl rfl ?_
      refine r_iaddN C dX12_takenBy_60 ?_
      refine r_laloadN C (hm.i 66 21 rfl) (hm.n 66 144 rfl) (by omega) (by omega) dX12_takenBy_61 ?_
      refine V.el (y := hadL τ (un τ 38 c) (d + 1) c) ((hbk d hd).2.2.2 c hc rfl) ?_
      exact r_lret C hr (⟨h67, hfo.mo, hlb, fun q => absurd hC q, fun _ => ⟨by rw [e_x, e_y, nI_clamp (n := c) (by omega), nI_clamp (n := d) (by omega)], ht, htb.cg rfl rfl (fun _ => ⟨rfl, rfl⟩) (fun _ => ⟨rfl, rfl⟩) (fun _ => ⟨rfl, rfl⟩) (fun _ => ⟨rfl, rfl⟩) (fun _ => ⟨rfl, rfl⟩) (fun _ => ⟨rfl, rfl⟩) (fun _ => ⟨rfl, rfl⟩) ⟩, by first | exact KD.i | exact KD.l | exact KD.n⟩) (by first | exact Nat.zero_le _ | decide) (by first | exact Nat.zero_le _ | decide) dX12_takenBy_62
    · skip
      have c34d := of_decide_eq_true c34
      have hC : (cd1 (rng x (un τ 44 44) && rng y 24)) ≠ 0 := c34d
      refine r_ldc2 C (v := (-1)) kl_X12_275 dX12_takenBy_37 ?_
      exact r_lret C hr (⟨h67, hfo.mo, hlb, fun _ => ⟨ht, htb⟩, fun q => absurd q hC, by first | exact KD.i | exact KD.l | exact KD.n⟩) (by first | exact Nat.zero_le _ | decide) (by first | exact Nat.zero_le _ | decide) dX12_takenBy_40
  refine r_aload_n C 0 dX12_takenBy_1 rfl rfl ?_
  refine r_iload_n C 1 dX12_takenBy_2 rfl rfl ?_
  refine r_i2l C dX12_takenBy_3 ?_
  refine r_lconst C (v := lN 0) dX12_takenBy_4 (by decide) ?_
  refine r_aload_n C 0 dX12_takenBy_5 rfl rfl ?_
  refine r_getI C fl_X12_371 rfl hm.k dX12_takenBy_6 ?_
  refine V.ei (y := nI (un τ 44 44)) ((ht.s 44 rfl).trans hw.ng.1) ?_
  refine r_iconst C (v := nI 1) dX12_takenBy_9 (by decide) ?_
  refine r_isub C dX12_takenBy_10 ?_
  refine r_i2l C dX12_takenBy_11 ?_
  refine r_callV C hgX (ci := 14) ml_X12_191 im_X12_in se_X12_in rfl rfl hm.k (c_X12_in l hfl G M mb x.toInt64 (lN 0) (((nI (un τ 44 44)) - (nI 1)).toInt64)) rfl (Nat.le_of_ble_eq_true rfl) ⟨Nat.le_of_ble_eq_true rfl, Nat.le_of_ble_eq_true rfl⟩ ⟨Nat.le_of_ble_eq_true rfl, Nat.le_of_ble_eq_true rfl⟩ dX12_takenBy_12 rfl ?_
  rintro _ _ ⟨rfl, rfl⟩
  refine V.eSt (st' := [.int (bI (decide ((lN 0) ≤ x.toInt64 ∧ x.toInt64 ≤ (((nI (un τ 44 44)) - (nI 1)).toInt64)))), .ref mb]) rfl ?_
  refine V.ei (y := bI (rng x (un τ 44 44))) (congrArg bI (rng_ct x _ (by omega))) ?_
  refine r_if_eqB C (t := 30) dX12_takenBy_15 (by decide) (fun c15 => ?_) (fun c15 => ?_)
  · skip
    refine r_iconst C (v := nI 1) dX12_takenBy_30 (by decide) ?_
    refine V.ei (y := nI (cd1 (rng x (un τ 44 44) && rng y 24))) (congrArg nI (by simp only [c15] <;> rfl)) ?_
    exact jn31
  · skip
    refine r_aload_n C 0 dX12_takenBy_18 rfl rfl ?_
    refine r_iload_n C 2 dX12_takenBy_19 rfl rfl ?_
    refine r_callV C hgX (ci := 14) ml_X12_272 im_X12_isMonth se_X12_isMonth rfl rfl hm.k (c_X12_isMonth l hfl G M mb hm y) rfl (Nat.le_of_ble_eq_true rfl) ⟨Nat.le_of_ble_eq_true rfl, Nat.le_of_ble_eq_true rfl⟩ ⟨Nat.le_of_ble_eq_true rfl, Nat.le_of_ble_eq_true rfl⟩ dX12_takenBy_20 rfl ?_
    rintro _ _ ⟨rfl, rfl⟩
    refine V.eSt (st' := [.int (bI (rng y 24)), .ref mb]) rfl ?_
    refine r_if_eqB C (t := 30) dX12_takenBy_23 (by decide) (fun c23 => ?_) (fun c23 => ?_)
    · skip
      refine r_iconst C (v := nI 1) dX12_takenBy_30 (by decide) ?_
      refine V.ei (y := nI (cd1 (rng x (un τ 44 44) && rng y 24))) (congrArg nI (by simp only [c15, c23] <;> rfl)) ?_
      exact jn31
    · skip
      refine r_iconst C (v := nI 0) dX12_takenBy_26 (by decide) ?_
      refine r_goto C (t := 31) dX12_takenBy_27 (by decide) ?_
      refine V.ei (y := nI (cd1 (rng x (un τ 44 44) && rng y 24))) (congrArg nI (by simp only [c15, c23] <;> rfl)) ?_
      exact jn31
set_option maxHeartbeats 4000000 in
set_option maxRecDepth 100000 in
theorem c_X12_advance (l : Launch) (hfl : l.flags = flags0) (G : gW) (M : Mem) (mb : Nat) (τ : Mu) (hm : MOK (mK M) (mN M) (mR M) mb) (ht : TE (mI M) (mL M) mb τ) (hw : WF τ) (htb : TEb (mI M) (mL M) mb τ) (hlb : LTB M mb) (x y : Int32) : CT l yX12_advance cX12_advance 6 (some .long) 2 0 0 47 G M [.ref mb, .int x, .int y] (fun v M' => PP mb M τ (cd3 (rng x 6) (inB y (lN 1) (lN 1000000)) (decide (un τ 46 46 ≠ 24))) (sL τ 45 (24 * x.toNatClampNeg + un τ 46 46) (τ.2 45 (24 * x.toNatClampNeg + un τ 46 46) + y.toInt64)) (some (.long (sumL (fun m => (sL τ 45 (24 * x.toNatClampNeg + un τ 46 46) (τ.2 45 (24 * x.toNatClampNeg + un τ 46 46) + y.toInt64)).2 45 (24 * x.toNatClampNeg + m)) 24))) v M') := by
  refine CT.of hfl rfl (Nat.le_of_ble_eq_true rfl) ?_
  intro pp ee ss mm ar bw mt cd C hgX hr hini
  have hnc := hw.nc.2
  have hsh := hw.sh.2
  have hnl := hw.nl.2
  have hne := hw.ne.2
  have hng := hw.ng.2
  have hop := hw.op.2
  have hnp := hw.np.2
  have ht0 := ht
  have hm0 := hm
  have htb0 := htb
  have hfo := fOut.rf [67, 45] mb M
  refine V.eLo (lo' := [(0, .ref mb), (1, .int x), (2, .int y)]) rfl ?_
  refine r_aload_n C 0 dX12_advance_0 rfl rfl ?_
  have jn44 : V pp l ee ({ frames := 2, cells := 0, slots := 0, locals := 47 } : Room) ss mm ar bw mt cd G (MQ bw (Ke G (fun v M' => PP mb M τ (cd3 (rng x 6) (inB y (lN 1) (lN 1000000)) (decide (un τ 46 46 ≠ 24))) (sL τ 45 (24 * x.toNatClampNeg + un τ 46 46) (τ.2 45 (24 * x.toNatClampNeg + un τ 46 46) + y.toInt64)) (some (.long (sumL (fun m => (sL τ 45 (24 * x.toNatClampNeg + un τ 46 46) (τ.2 45 (24 * x.toNatClampNeg + un τ 46 46) + y.toInt64)).2 45 (24 * x.toNatClampNeg + m)) 24))) v M')) ar ss 0 0 (gA G)) 6 M 0 0 44 [(0, .ref mb), (1, .int x), (2, .int y)] [.int (nI (cd3 (rng x 6) (inB y (lN 1) (lN 1000000)) (decide (un τ 46 46 ≠ 24)))), .ref mb] := by
    skip
    refine r_callV C hgX (ci := 14) ml_X12_227 im_X12_holds se_X12_holds rfl rfl hm.k (c_X12_holds l hfl G M mb hm (nI (cd3 (rng x 6) (inB y (lN 1) (lN 1000000)) (decide (un τ 46 46 ≠ 24))))) rfl (Nat.le_of_ble_eq_true rfl) ⟨Nat.le_of_ble_eq_true rfl, Nat.le_of_ble_eq_true rfl⟩ ⟨Nat.le_of_ble_eq_true rfl, Nat.le_of_ble_eq_true rfl⟩ dX12_advance_44 rfl ?_
    rintro _ _ ⟨rfl, rfl⟩
    refine V.eSt (st' := [.int (bI (decide (0 < nI (cd3 (rng x 6) (inB y (lN 1) (lN 1000000)) (decide (un τ 46 46 ≠ 24))))))]) rfl ?_
    refine V.ei (y := bI (decide ((cd3 (rng x 6) (inB y (lN 1) (lN 1000000)) (decide (un τ 46 46 ≠ 24))) ≠ 0))) (congrArg bI (hold_d (cd3_le _ _ _))) ?_
    have hfo := hfo.set0 67 (nI (cd3 (rng x 6) (inB y (lN 1) (lN 1000000)) (decide (un τ 46 46 ≠ 24)))) rfl
    have ht := ht.ws 67 (nI (cd3 (rng x 6) (inB y (lN 1) (lN 1000000)) (decide (un τ 46 46 ≠ 24)))) rfl rfl
    have htb := ((fOut.rf [67] mb _).set0 67 (nI (cd3 (rng x 6) (inB y (lN 1) (lN 1000000)) (decide (un τ 46 46 ≠ 24)))) rfl).tb rfl htb
    have h67 : mI (wI M mb 67 (nI (cd3 (rng x 6) (inB y (lN 1) (lN 1000000)) (decide (un τ 46 46 ≠ 24))))) mb 67 = nI (cd3 (rng x 6) (inB y (lN 1) (lN 1000000)) (decide (un τ 46 46 ≠ 24))) := up2_same _ _ _ _
    have hlb : LTB (wI M mb 67 (nI (cd3 (rng x 6) (inB y (lN 1) (lN 1000000)) (decide (un τ 46 46 ≠ 24))))) mb := hlb.ws 67 _
    refine r_if_eqB C (t := 54) dX12_advance_47 (by decide) (fun c47 => ?_) (fun c47 => ?_)
    · skip
      have c47d := of_decide_eq_false c47
      have hC : (cd3 (rng x 6) (inB y (lN 1) (lN 1000000)) (decide (un τ 46 46 ≠ 24))) = 0 := by have := c47d; omega
      obtain ⟨h1, h2, h3⟩ := cd3_0 hC
      have h3d := of_decide_eq_true h3
      obtain ⟨c, hc, e_x⟩ := rng_t h1
      refine V.eLo (lo' := [(0, .ref mb), (1, .int (nI c)), (2, .int y)]) (by rw [e_x]) ?_
      refine r_aload_n C 0 dX12_advance_54 rfl rfl ?_
      refine r_getR C (b := (ma mb 45)) fl_X12_119 rfl hm.k (hm.r 45 rfl) dX12_advance_55 ?_
      refine r_bipush C (v := nI 24) dX12_advance_58 (by decide) ?_
      refine r_iload_n C 1 dX12_advance_60 rfl rfl ?_
      refine r_imulN C dX12_advance_61 ?_
      have hop := hw.op.2
      refine r_aload_n C 0 dX12_advance_62 rfl rfl ?_
      refine r_getI C fl_X12_395 rfl hm.k dX12_advance_63 ?_
      refine V.ei (y := nI (un τ 46 46)) ((htb.s 46 rfl).trans hw.op.1) ?_
      refine r_iaddN C dX12_advance_66 ?_
      refine r_dup2 C dX12_advance_67 rfl rfl ?_
      refine r_laloadN C (hm.i 45 21 rfl) (hm.n 45 144 rfl) (by omega) (by omega) dX12_advance_68 ?_
      refine V.el (y := τ.2 45 (24 * c + un τ 46 46)) (ht.l 45 rfl _) ?_
      refine r_iload_n C 2 dX12_advance_69 rfl rfl ?_
      refine r_i2l C dX12_advance_70 ?_
      refine r_ladd C dX12_advance_71 ?_
      refine r_lastoreN C (hm.i 45 21 rfl) (hm.n 45 144 rfl) (by omega) (by omega) dX12_advance_72 ?_
      have htb := ((fOut.rf [45] mb _).setL 45 (24 * c + un τ 46 46) ((τ.2 45 (24 * c + un τ 46 46)) + y.toInt64) rfl).tb rfl htb
      have hlb : LTB (wL (wI M mb 67 (nI (cd3 (rng x 6) (inB y (lN 1) (lN 1000000)) (decide (un τ 46 46 ≠ 24))))) (ma mb 45) (24 * c + un τ 46 46) ((τ.2 45 (24 * c + un τ 46 46)) + y.toInt64)) mb := hlb
      have hfo := hfo.setL 45 (24 * c + un τ 46 46) ((τ.2 45 (24 * c + un τ 46 46)) + y.toInt64) rfl
      have h67 : mI (wL (wI M mb 67 (nI (cd3 (rng x 6) (inB y (lN 1) (lN 1000000)) (decide (un τ 46 46 ≠ 24))))) (ma mb 45) (24 * c + un τ 46 46) ((τ.2 45 (24 * c + un τ 46 46)) + y.toInt64)) mb 67 = _ := h67
      have ht := ht.ul 45 (24 * c + un τ 46 46) ((τ.2 45 (24 * c + un τ 46 46)) + y.toInt64) rfl
      refine r_lconst C (v := lN 0) dX12_advance_73 (by decide) ?_
      refine r_lstore_n C (lo' := [(3, .long (lN 0)), (0, .ref mb), (1, .int (nI c)), (2, .int y)]) dX12_advance_74 rfl (by decide) rfl ?_
      refine r_iconst C (v := nI 0) dX12_advance_75 (by decide) ?_
      refine r_istore C (lo' := [(5, .int (nI 0)), (3, .long (lN 0)), (0, .ref mb), (1, .int (nI c)), (2, .int y)]) dX12_advance_76 (by decide) rfl ?_
      have lp78 : ∀ (k78 : Nat) (m : Nat) (hmd : m ≤ 24), 25 - m < k78 → V pp l ee ({ frames := 2, cells := 0, slots := 0, locals := 47 } : Room) ss mm ar bw mt cd G (MQ bw (Ke G (fun v M' => PP mb M τ (cd3 (rng x 6) (inB y (lN 1) (lN 1000000)) (decide (un τ 46 46 ≠ 24))) (sL τ 45 (24 * x.toNatClampNeg + un τ 46 46) (τ.2 45 (24 * x.toNatClampNeg + un τ 46 46) + y.toInt64)) (some (.long (sumL (fun m => (sL τ 45 (24 * x.toNatClampNeg + un τ 46 46) (τ.2 45 (24 * x.toNatClampNeg + un τ 46 46) + y.toInt64)).2 45 (24 * x.toNatClampNeg + m)) 24))) v M')) ar ss 0 0 (gA G)) 6 (wL (wI M mb 67 (nI (cd3 (rng x 6) (inB y (lN 1) (lN 1000000)) (decide (un τ 46 46 ≠ 24))))) (ma mb 45) (24 * c + un τ 46 46) ((τ.2 45 (24 * c + un τ 46 46)) + y.toInt64)) 0 0 78 [(0, .ref mb), (1, .int (nI c)), (3, .long (sumL (fun m => (sL τ 45 (24 * c + un τ 46 46) (τ.2 45 (24 * c + un τ 46 46) + y.toInt64)).2 45 (24 * c + m)) m)), (5, .int (nI m))] [] := by
        intro k78
        induction k78 with
        | zero => intro m hmd hz78; exact absurd hz78 (Nat.not_lt_zero _)
        | succ k78 ih78 =>
          intro m hmd hz78
          refine r_iload C 3 dX12_advance_78 rfl ?_
          refine r_bipush C (v := nI 24) dX12_advance_80 (by decide) ?_
          refine r_icmp_geN C (t := 106) (by omega) (by omega) dX12_advance_82 (by decide) (fun c82 => ?_) (fun c82 => ?_)
          · skip
            have em : m = 24 := by omega
            subst em
            refine r_lload_n C 2 dX12_advance_106 rfl rfl ?_
            exact r_lret C hr (⟨h67, hfo.mo, hlb, fun q => absurd hC q, fun _ => ⟨by rw [e_x, nI_clamp (n := c) (by omega)], by rw [← (show sL τ 45 (24 * c + un τ 46 46) (τ.2 45 (24 * c + un τ 46 46) + y.toInt64) = sL τ 45 (24 * x.toNatClampNeg + un τ 46 46) (τ.2 45 (24 * x.toNatClampNeg + un τ 46 46) + y.toInt64) by rw [e_x, nI_clamp (n := c) (by omega)])]; exact ht, htb.cg rfl rfl (fun _ => ⟨rfl, rfl⟩) (fun _ => ⟨rfl, rfl⟩) (fun _ => ⟨rfl, rfl⟩) (fun _ => ⟨rfl, rfl⟩) (fun _ => ⟨rfl, rfl⟩) (fun _ => ⟨rfl, rfl⟩) (fun _ => ⟨rfl, rfl⟩) ⟩, by first | exact KD.i | exact KD.l | exact KD.n⟩) (by first | exact Nat.zero_le _ | decide) (by first | exact Nat.zero_le _ | decide) dX12_advance_107
          · skip
            refine r_lload_n C 2 dX12_advance_85 rfl rfl ?_
            refine r_aload_n C 0 dX12_advance_86 rfl rfl ?_
            refine r_getR C (b := (ma mb 45)) fl_X12_119 rfl hm.k (hm.r 45 rfl) dX12_advance_87 ?_
            refine r_bipush C (v := nI 24) dX12_advance_90 (by decide) ?_
            refine r_iload_n C 1 dX12_advance_92 rfl rfl ?_
            refine r_imulN C dX12_advance_93 ?_
            refine r_iload C 3 dX12_advance_94 rfl ?_
            refine r_iaddN C dX12_advance_96 ?_
            refine r_laloadN C (hm.i 45 21 rfl) (hm.n 45 144 rfl) (by omega) (by omega) dX12_advance_97 ?_
            refine V.el (y := (sL τ 45 (24 * c + un τ 46 46) (τ.2 45 (24 * c + un τ 46 46) + y.toInt64)).2 45 (24 * c + m)) (ht.l 45 rfl _) ?_
            refine r_ladd C dX12_advance_98 ?_
            refine r_lstore_n C (lo' := [(3, .long ((sumL (fun m => (sL τ 45 (24 * c + un τ 46 46) (τ.2 45 (24 * c + un τ 46 46) + y.toInt64)).2 45 (24 * c + m)) m) + ((sL τ 45 (24 * c + un τ 46 46) (τ.2 45 (24 * c + un τ 46 46) + y.toInt64)).2 45 (24 * c + m)))), (0, .ref mb), (1, .int (nI c)), (5, .int (nI m))]) dX12_advance_99 rfl (by decide) rfl ?_
            refine r_iinc C (v := nI (m + 1)) (lo' := [(5, .int (nI (m + 1))), (3, .long ((sumL (fun m => (sL τ 45 (24 * c + un τ 46 46) (τ.2 45 (24 * c + un τ 46 46) + y.toInt64)).2 45 (24 * c + m)) m) + ((sL τ 45 (24 * c + un τ 46 46) (τ.2 45 (24 * c + un τ 46 46) + y.toInt64)).2 45 (24 * c + m)))), (0, .ref mb), (1, .int (nI c))]) 3 dX12_advance_100 rfl (nI_addI m 1) (by decide) rfl ?_
            refine r_goto C (t := 78) dX12_advance_103 (by decide) ?_
            have jb3 : ((sumL (fun m => (sL τ 45 (24 * c + un τ 46 46) (τ.2 45 (24 * c + un τ 46 46) + y.toInt64)).2 45 (24 * c + m)) m) + ((sL τ 45 (24 * c + un τ 46 46) (τ.2 45 (24 * c + un τ 46 46) + y.toInt64)).2 45 (24 * c + m))) = (sumL (fun m => (sL τ 45 (24 * c + un τ 46 46) (τ.2 45 (24 * c + un τ 46 46) + y.toInt64)).2 45 (24 * c + m)) (m + 1)) := by rfl
            refine V.eLo (lo' := [(5, .int (nI (m + 1))), (3, .long (sumL (fun m => (sL τ 45 (24 * c + un τ 46 46) (τ.2 45 (24 * c + un τ 46 46) + y.toInt64)).2 45 (24 * c + m)) (m + 1))), (0, .ref mb), (1, .int (nI c))]) (congrArg (fun z_ => ([(5, .int (nI (m + 1))), (3, .long z_), (0, .ref mb), (1, .int (nI c))] : List (Nat × Value))) jb3) ?_
            refine V.sub [2, 3, 1, 0] (lo' := [(0, .ref mb), (1, .int (nI c)), (3, .long (sumL (fun m => (sL τ 45 (24 * c + un τ 46 46) (τ.2 45 (24 * c + un τ 46 46) + y.toInt64)).2 45 (24 * c + m)) (m + 1))), (5, .int (nI (m + 1)))]) rfl ?_
            exact ih78 (m + 1) (by omega) (by omega)
      refine V.sub [2, 3, 1, 0] (lo' := [(0, .ref mb), (1, .int (nI c)), (3, .long (lN 0)), (5, .int (nI 0))]) rfl ?_
      exact lp78 _ 0 (Nat.zero_le _) (Nat.lt_succ_self _)
    · skip
      have c47d := of_decide_eq_true c47
      have hC : (cd3 (rng x 6) (inB y (lN 1) (lN 1000000)) (decide (un τ 46 46 ≠ 24))) ≠ 0 := c47d
      refine r_ldc2 C (v := (-1)) kl_X12_275 dX12_advance_50 ?_
      exact r_lret C hr (⟨h67, hfo.mo, hlb, fun _ => ⟨ht, htb⟩, fun q => absurd q hC, by first | exact KD.i | exact KD.l | exact KD.n⟩) (by first | exact Nat.zero_le _ | decide) (by first | exact Nat.zero_le _ | decide) dX12_advance_53
  refine r_aload_n C 0 dX12_advance_1 rfl rfl ?_
  refine r_iload_n C 1 dX12_advance_2 rfl rfl ?_
  refine r_callV C hgX (ci := 14) ml_X12_212 im_X12_isPerson se_X12_isPerson rfl rfl hm.k (c_X12_isPerson l hfl G M mb hm x) rfl (Nat.le_of_ble_eq_true rfl) ⟨Nat.le_of_ble_eq_true rfl, Nat.le_of_ble_eq_true rfl⟩ ⟨Nat.le_of_ble_eq_true rfl, Nat.le_of_ble_eq_true rfl⟩ dX12_advance_3 rfl ?_
  rintro _ _ ⟨rfl, rfl⟩
  refine V.eSt (st' := [.int (bI (rng x 6)), .ref mb]) rfl ?_
  refine r_if_neB C (t := 13) dX12_advance_6 (by decide) (fun c6 => ?_) (fun c6 => ?_)
  · skip
    refine r_aload_n C 0 dX12_advance_13 rfl rfl ?_
    refine r_iload_n C 2 dX12_advance_14 rfl rfl ?_
    refine r_i2l C dX12_advance_15 ?_
    refine r_lconst C (v := lN 1) dX12_advance_16 (by decide) ?_
    refine r_ldc2 C (v := 1000000) kl_X12_225 dX12_advance_17 ?_
    refine V.el (y := lN 1000000) (by decide) ?_
    refine r_callV C hgX (ci := 14) ml_X12_191 im_X12_in se_X12_in rfl rfl hm.k (c_X12_in l hfl G M mb y.toInt64 (lN 1) (lN 1000000)) rfl (Nat.le_of_ble_eq_true rfl) ⟨Nat.le_of_ble_eq_true rfl, Nat.le_of_ble_eq_true rfl⟩ ⟨Nat.le_of_ble_eq_true rfl, Nat.le_of_ble_eq_true rfl⟩ dX12_advance_20 rfl ?_
    rintro _ _ ⟨rfl, rfl⟩
    refine V.eSt (st' := [.int (bI (decide ((lN 1) ≤ y.toInt64 ∧ y.toInt64 ≤ (lN 1000000)))), .ref mb]) rfl ?_
    refine V.ei (y := bI (inB y (lN 1) (lN 1000000))) rfl ?_
    refine r_if_neB C (t := 30) dX12_advance_23 (by decide) (fun c23 => ?_) (fun c23 => ?_)
    · skip
      refine r_aload_n C 0 dX12_advance_30 rfl rfl ?_
      refine r_getI C fl_X12_395 rfl hm.k dX12_advance_31 ?_
      refine V.ei (y := nI (un τ 46 46)) ((htb.s 46 rfl).trans hw.op.1) ?_
      refine r_bipush C (v := nI 24) dX12_advance_34 (by decide) ?_
      refine r_icmp_neN C (t := 43) (by omega) (by omega) dX12_advance_36 (by decide) (fun c36 => ?_) (fun c36 => ?_)
      · skip
        refine r_iconst C (v := nI 0) dX12_advance_43 (by decide) ?_
        refine V.ei (y := nI (cd3 (rng x 6) (inB y (lN 1) (lN 1000000)) (decide (un τ 46 46 ≠ 24)))) (congrArg nI (by simp only [c6, c23, decide_eq_true c36] <;> rfl)) ?_
        exact jn44
      · skip
        refine r_iconst C (v := nI 3) dX12_advance_39 (by decide) ?_
        refine r_goto C (t := 44) dX12_advance_40 (by decide) ?_
        refine V.ei (y := nI (cd3 (rng x 6) (inB y (lN 1) (lN 1000000)) (decide (un τ 46 46 ≠ 24)))) (congrArg nI (by simp only [c6, c23, show decide (un τ 46 46 ≠ 24) = false from decide_eq_false (fun q => q c36)] <;> rfl)) ?_
        exact jn44
    · skip
      refine r_iconst C (v := nI 2) dX12_advance_26 (by decide) ?_
      refine r_goto C (t := 44) dX12_advance_27 (by decide) ?_
      refine V.ei (y := nI (cd3 (rng x 6) (inB y (lN 1) (lN 1000000)) (decide (un τ 46 46 ≠ 24)))) (congrArg nI (by simp only [c6, c23] <;> rfl)) ?_
      exact jn44
  · skip
    refine r_iconst C (v := nI 1) dX12_advance_9 (by decide) ?_
    refine r_goto C (t := 44) dX12_advance_10 (by decide) ?_
    refine V.ei (y := nI (cd3 (rng x 6) (inB y (lN 1) (lN 1000000)) (decide (un τ 46 46 ≠ 24)))) (congrArg nI (by simp only [c6] <;> rfl)) ?_
    exact jn44
set_option maxHeartbeats 4000000 in
set_option maxRecDepth 100000 in
theorem c_X12_open (l : Launch) (hfl : l.flags = flags0) (G : gW) (M : Mem) (mb : Nat) (τ : Mu) (hm : MOK (mK M) (mN M) (mR M) mb) (ht : TE (mI M) (mL M) mb τ) (hw : WF τ) (htb : TEb (mI M) (mL M) mb τ) (hlb : LTB M mb) : CT l yX12_open cX12_open 1 (some .int) 1 0 0 21 G M [.ref mb] (fun v M' => PP mb M τ 0 τ (some (.int (nI (un τ 46 46)))) v M') := by
  refine CT.of hfl rfl (Nat.le_of_ble_eq_true rfl) ?_
  intro pp ee ss mm ar bw mt cd C hgX hr hini
  have hnc := hw.nc.2
  have hsh := hw.sh.2
  have hnl := hw.nl.2
  have hne := hw.ne.2
  have hng := hw.ng.2
  have hop := hw.op.2
  have hnp := hw.np.2
  have ht0 := ht
  have hm0 := hm
  have hfo := fOut.rf [67] mb M
  refine V.eLo (lo' := [(0, .ref mb)]) rfl ?_
  refine r_aload_n C 0 dX12_open_0 rfl rfl ?_
  refine r_iconst C (v := nI 0) dX12_open_1 (by decide) ?_
  refine r_callV C hgX (ci := 14) ml_X12_227 im_X12_holds se_X12_holds rfl rfl hm.k (c_X12_holds l hfl G M mb hm (nI 0)) rfl (Nat.le_of_ble_eq_true rfl) ⟨Nat.le_of_ble_eq_true rfl, Nat.le_of_ble_eq_true rfl⟩ ⟨Nat.le_of_ble_eq_true rfl, Nat.le_of_ble_eq_true rfl⟩ dX12_open_2 rfl ?_
  rintro _ _ ⟨rfl, rfl⟩
  refine V.eSt (st' := [.int (bI (decide (0 < nI 0)))]) rfl ?_
  refine V.ei (y := bI (decide (0 ≠ 0))) (congrArg bI (hold_d (by decide : 0 ≤ 3))) ?_
  have hfo := hfo.set0 67 (nI 0) rfl
  have ht := ht.ws 67 (nI 0) rfl rfl
  have htb := ((fOut.rf [67] mb _).set0 67 (nI 0) rfl).tb rfl htb
  have h67 : mI (wI M mb 67 (nI 0)) mb 67 = nI 0 := up2_same _ _ _ _
  have hlb : LTB (wI M mb 67 (nI 0)) mb := hlb.ws 67 _
  refine r_pop C dX12_open_5 rfl ?_
  refine r_aload_n C 0 dX12_open_6 rfl rfl ?_
  refine r_getI C fl_X12_395 rfl hm.k dX12_open_7 ?_
  refine V.ei (y := nI (un τ 46 46)) ((htb.s 46 rfl).trans hw.op.1) ?_
  exact r_iret C hr (⟨h67, hfo.mo, hlb, fun q => absurd rfl q, fun _ => ⟨rfl, ht, htb⟩, KD.i⟩) (by first | exact Nat.zero_le _ | decide) (by first | exact Nat.zero_le _ | decide) dX12_open_10
set_option maxHeartbeats 4000000 in
set_option maxRecDepth 100000 in
theorem c_X12_payments (l : Launch) (hfl : l.flags = flags0) (G : gW) (M : Mem) (mb : Nat) (τ : Mu) (hm : MOK (mK M) (mN M) (mR M) mb) (ht : TE (mI M) (mL M) mb τ) (hw : WF τ) (htb : TEb (mI M) (mL M) mb τ) (hlb : LTB M mb) : CT l yX12_payments cX12_payments 1 (some .int) 1 0 0 21 G M [.ref mb] (fun v M' => PP mb M τ 0 τ (some (.int (nI (un τ 51 51)))) v M') := by
  refine CT.of hfl rfl (Nat.le_of_ble_eq_true rfl) ?_
  intro pp ee ss mm ar bw mt cd C hgX hr hini
  have hnc := hw.nc.2
  have hsh := hw.sh.2
  have hnl := hw.nl.2
  have hne := hw.ne.2
  have hng := hw.ng.2
  have hop := hw.op.2
  have hnp := hw.np.2
  have ht0 := ht
  have hm0 := hm
  have hfo := fOut.rf [67] mb M
  refine V.eLo (lo' := [(0, .ref mb)]) rfl ?_
  refine r_aload_n C 0 dX12_payments_0 rfl rfl ?_
  refine r_iconst C (v := nI 0) dX12_payments_1 (by decide) ?_
  refine r_callV C hgX (ci := 14) ml_X12_227 im_X12_holds se_X12_holds rfl rfl hm.k (c_X12_holds l hfl G M mb hm (nI 0)) rfl (Nat.le_of_ble_eq_true rfl) ⟨Nat.le_of_ble_eq_true rfl, Nat.le_of_ble_eq_true rfl⟩ ⟨Nat.le_of_ble_eq_true rfl, Nat.le_of_ble_eq_true rfl⟩ dX12_payments_2 rfl ?_
  rintro _ _ ⟨rfl, rfl⟩
  refine V.eSt (st' := [.int (bI (decide (0 < nI 0)))]) rfl ?_
  refine V.ei (y := bI (decide (0 ≠ 0))) (congrArg bI (hold_d (by decide : 0 ≤ 3))) ?_
  have hfo := hfo.set0 67 (nI 0) rfl
  have ht := ht.ws 67 (nI 0) rfl rfl
  have htb := ((fOut.rf [67] mb _).set0 67 (nI 0) rfl).tb rfl htb
  have h67 : mI (wI M mb 67 (nI 0)) mb 67 = nI 0 := up2_same _ _ _ _
  have hlb : LTB (wI M mb 67 (nI 0)) mb := hlb.ws 67 _
  refine r_pop C dX12_payments_5 rfl ?_
  refine r_aload_n C 0 dX12_payments_6 rfl rfl ?_
  refine r_getI C fl_X12_398 rfl hm.k dX12_payments_7 ?_
  refine V.ei (y := nI (un τ 51 51)) ((htb.s 51 rfl).trans hw.np.1) ?_
  exact r_iret C hr (⟨h67, hfo.mo, hlb, fun q => absurd rfl q, fun _ => ⟨rfl, ht, htb⟩, KD.i⟩) (by first | exact Nat.zero_le _ | decide) (by first | exact Nat.zero_le _ | decide) dX12_payments_10
set_option maxHeartbeats 4000000 in
set_option maxRecDepth 100000 in
theorem c_X12_payment (l : Launch) (hfl : l.flags = flags0) (G : gW) (M : Mem) (mb : Nat) (τ : Mu) (hm : MOK (mK M) (mN M) (mR M) mb) (ht : TE (mI M) (mL M) mb τ) (hw : WF τ) (htb : TEb (mI M) (mL M) mb τ) (hlb : LTB M mb) (x y : Int32) : CT l yX12_payment cX12_payment 3 (some .long) 1 0 0 26 G M [.ref mb, .int x, .int y] (fun v M' => PP mb M τ (cd2 (rng x (un τ 51 51)) (inB y (lN 0) (lN 3))) (τ) (some (.long (pmL τ x.toNatClampNeg y.toNatClampNeg))) v M') := by
  refine CT.of hfl rfl (Nat.le_of_ble_eq_true rfl) ?_
  intro pp ee ss mm ar bw mt cd C hgX hr hini
  have hnc := hw.nc.2
  have hsh := hw.sh.2
  have hnl := hw.nl.2
  have hne := hw.ne.2
  have hng := hw.ng.2
  have hop := hw.op.2
  have hnp := hw.np.2
  have ht0 := ht
  have hm0 := hm
  have htb0 := htb
  have hfo := fOut.rf [67] mb M
  refine V.eLo (lo' := [(0, .ref mb), (1, .int x), (2, .int y)]) rfl ?_
  refine r_aload_n C 0 dX12_payment_0 rfl rfl ?_
  have jn40 : V pp l ee ({ frames := 1, cells := 0, slots := 0, locals := 26 } : Room) ss mm ar bw mt cd G (MQ bw (Ke G (fun v M' => PP mb M τ (cd2 (rng x (un τ 51 51)) (inB y (lN 0) (lN 3))) (τ) (some (.long (pmL τ x.toNatClampNeg y.toNatClampNeg))) v M')) ar ss 0 0 (gA G)) 3 M 0 0 40 [(0, .ref mb), (1, .int x), (2, .int y)] [.int (nI (cd2 (rng x (un τ 51 51)) (inB y (lN 0) (lN 3)))), .ref mb] := by
    skip
    refine r_callV C hgX (ci := 14) ml_X12_227 im_X12_holds se_X12_holds rfl rfl hm.k (c_X12_holds l hfl G M mb hm (nI (cd2 (rng x (un τ 51 51)) (inB y (lN 0) (lN 3))))) rfl (Nat.le_of_ble_eq_true rfl) ⟨Nat.le_of_ble_eq_true rfl, Nat.le_of_ble_eq_true rfl⟩ ⟨Nat.le_of_ble_eq_true rfl, Nat.le_of_ble_eq_true rfl⟩ dX12_payment_40 rfl ?_
    rintro _ _ ⟨rfl, rfl⟩
    refine V.eSt (st' := [.int (bI (decide (0 < nI (cd2 (rng x (un τ 51 51)) (inB y (lN 0) (lN 3))))))]) rfl ?_
    refine V.ei (y := bI (decide ((cd2 (rng x (un τ 51 51)) (inB y (lN 0) (lN 3))) ≠ 0))) (congrArg bI (hold_d (cd2_le _ _))) ?_
    have hfo := hfo.set0 67 (nI (cd2 (rng x (un τ 51 51)) (inB y (lN 0) (lN 3)))) rfl
    have ht := ht.ws 67 (nI (cd2 (rng x (un τ 51 51)) (inB y (lN 0) (lN 3)))) rfl rfl
    have htb := ((fOut.rf [67] mb _).set0 67 (nI (cd2 (rng x (un τ 51 51)) (inB y (lN 0) (lN 3)))) rfl).tb rfl htb
    have h67 : mI (wI M mb 67 (nI (cd2 (rng x (un τ 51 51)) (inB y (lN 0) (lN 3))))) mb 67 = nI (cd2 (rng x (un τ 51 51)) (inB y (lN 0) (lN 3))) := up2_same _ _ _ _
    have hlb : LTB (wI M mb 67 (nI (cd2 (rng x (un τ 51 51)) (inB y (lN 0) (lN 3))))) mb := hlb.ws 67 _
    refine r_if_eqB C (t := 50) dX12_payment_43 (by decide) (fun c43 => ?_) (fun c43 => ?_)
    · skip
      have c43d := of_decide_eq_false c43
      have hC : (cd2 (rng x (un τ 51 51)) (inB y (lN 0) (lN 3))) = 0 := by have := c43d; omega
      obtain ⟨h1, h2⟩ := cd2_0 hC
      obtain ⟨c, hc, e_x⟩ := rng_t h1
      obtain ⟨w, hw0, hw3, e_y⟩ := inB_N (by decide) (by decide) h2
      refine V.eLo (lo' := [(0, .ref mb), (1, .int (nI c)), (2, .int (nI w))]) (by rw [e_x, e_y]) ?_
      have jn100 : V pp l ee ({ frames := 1, cells := 0, slots := 0, locals := 26 } : Room) ss mm ar bw mt cd G (MQ bw (Ke G (fun v M' => PP mb M τ (cd2 (rng x (un τ 51 51)) (inB y (lN 0) (lN 3))) (τ) (some (.long (pmL τ x.toNatClampNeg y.toNatClampNeg))) v M')) ar ss 0 0 (gA G)) 3 (wI M mb 67 (nI (cd2 (rng x (un τ 51 51)) (inB y (lN 0) (lN 3))))) 0 0 100 [(0, .ref mb), (1, .int (nI c)), (2, .int (nI w))] [.long (pmL τ c w)] := by
        skip
        exact r_lret C hr (⟨h67, hfo.mo, hlb, fun q => absurd hC q, fun _ => ⟨by rw [e_x, e_y, nI_clamp (n := c) (by omega), nI_clamp (n := w) (by omega)], ht, htb.cg rfl rfl (fun _ => ⟨rfl, rfl⟩) (fun _ => ⟨rfl, rfl⟩) (fun _ => ⟨rfl, rfl⟩) (fun _ => ⟨rfl, rfl⟩) (fun _ => ⟨rfl, rfl⟩) (fun _ => ⟨rfl, rfl⟩) (fun _ => ⟨rfl, rfl⟩) ⟩, by first | exact KD.i | exact KD.l | exact KD.n⟩) (by first | exact Nat.zero_le _ | decide) (by first | exact Nat.zero_le _ | decide) dX12_payment_100
      refine r_iload_n C 2 dX12_payment_50 rfl rfl ?_
      refine r_if_neN C (t := 64) (by omega) dX12_payment_51 (by decide) (fun c51 => ?_) (fun c51 => ?_)
      · skip
        refine r_iload_n C 2 dX12_payment_64 rfl rfl ?_
        refine r_iconst C (v := nI 1) dX12_payment_65 (by decide) ?_
        refine r_icmp_neN C (t := 79) (by omega) (by omega) dX12_payment_66 (by decide) (fun c66 => ?_) (fun c66 => ?_)
        · skip
          refine r_iload_n C 2 dX12_payment_79 rfl rfl ?_
          refine r_iconst C (v := nI 2) dX12_payment_80 (by decide) ?_
          refine r_icmp_neN C (t := 93) (by omega) (by omega) dX12_payment_81 (by decide) (fun c81 => ?_) (fun c81 => ?_)
          · skip
            refine r_aload_n C 0 dX12_payment_93 rfl rfl ?_
            refine r_getR C (b := (ma mb 50)) fl_X12_131 rfl hm.k (hm.r 50 rfl) dX12_payment_94 ?_
            refine r_iload_n C 1 dX12_payment_97 rfl rfl ?_
            refine r_ialoadN C (hm.i 50 20 rfl) (hm.n 50 144 rfl) (by omega) (by omega) dX12_payment_98 ?_
            refine V.ei (y := nI (un τ 50 c)) ((htb.i 50 rfl _).trans (hw.pb c (by omega)).1) ?_
            have hb0 := (hw.pb c (by omega)).2
            refine r_i2lN C (by omega) dX12_payment_99 ?_
            refine V.el (y := pmL τ c w) (by unfold pmL; rw [if_neg c51, if_neg c66, if_neg c81]) ?_
            exact jn100
          · skip
            refine r_aload_n C 0 dX12_payment_84 rfl rfl ?_
            refine r_getR C (b := (ma mb 49)) fl_X12_128 rfl hm.k (hm.r 49 rfl) dX12_payment_85 ?_
            refine r_iload_n C 1 dX12_payment_88 rfl rfl ?_
            refine r_laloadN C (hm.i 49 21 rfl) (hm.n 49 144 rfl) (by omega) (by omega) dX12_payment_89 ?_
            refine V.el (y := τ.2 49 c) (htb.l 49 rfl _) ?_
            refine r_goto C (t := 100) dX12_payment_90 (by decide) ?_
            refine V.el (y := pmL τ c w) (by unfold pmL; rw [if_neg c51, if_neg c66, if_pos c81]) ?_
            exact jn100
        · skip
          refine r_aload_n C 0 dX12_payment_69 rfl rfl ?_
          refine r_getR C (b := (ma mb 48)) fl_X12_125 rfl hm.k (hm.r 48 rfl) dX12_payment_70 ?_
          refine r_iload_n C 1 dX12_payment_73 rfl rfl ?_
          refine r_ialoadN C (hm.i 48 20 rfl) (hm.n 48 144 rfl) (by omega) (by omega) dX12_payment_74 ?_
          refine V.ei (y := nI (un τ 48 c)) ((htb.i 48 rfl _).trans (hw.pm c (by omega)).1) ?_
          have hb1 := (hw.pm c (by omega)).2
          refine r_i2lN C (by omega) dX12_payment_75 ?_
          refine r_goto C (t := 100) dX12_payment_76 (by decide) ?_
          refine V.el (y := pmL τ c w) (by unfold pmL; rw [if_neg c51, if_pos c66]) ?_
          exact jn100
      · skip
        refine r_aload_n C 0 dX12_payment_54 rfl rfl ?_
        refine r_getR C (b := (ma mb 47)) fl_X12_122 rfl hm.k (hm.r 47 rfl) dX12_payment_55 ?_
        refine r_iload_n C 1 dX12_payment_58 rfl rfl ?_
        refine r_ialoadN C (hm.i 47 20 rfl) (hm.n 47 144 rfl) (by omega) (by omega) dX12_payment_59 ?_
        refine V.ei (y := nI (un τ 47 c)) ((htb.i 47 rfl _).trans (hw.pw c (by omega)).1) ?_
        have hb2 := (hw.pw c (by omega)).2
        refine r_i2lN C (by omega) dX12_payment_60 ?_
        refine r_goto C (t := 100) dX12_payment_61 (by decide) ?_
        refine V.el (y := pmL τ c w) (by unfold pmL; rw [if_pos c51]) ?_
        exact jn100
    · skip
      have c43d := of_decide_eq_true c43
      have hC : (cd2 (rng x (un τ 51 51)) (inB y (lN 0) (lN 3))) ≠ 0 := c43d
      refine r_ldc2 C (v := (-1)) kl_X12_275 dX12_payment_46 ?_
      exact r_lret C hr (⟨h67, hfo.mo, hlb, fun _ => ⟨ht, htb⟩, fun q => absurd q hC, by first | exact KD.i | exact KD.l | exact KD.n⟩) (by first | exact Nat.zero_le _ | decide) (by first | exact Nat.zero_le _ | decide) dX12_payment_49
  refine r_aload_n C 0 dX12_payment_1 rfl rfl ?_
  refine r_iload_n C 1 dX12_payment_2 rfl rfl ?_
  refine r_i2l C dX12_payment_3 ?_
  refine r_lconst C (v := lN 0) dX12_payment_4 (by decide) ?_
  refine r_aload_n C 0 dX12_payment_5 rfl rfl ?_
  refine r_getI C fl_X12_398 rfl hm.k dX12_payment_6 ?_
  refine V.ei (y := nI (un τ 51 51)) ((htb.s 51 rfl).trans hw.np.1) ?_
  refine r_iconst C (v := nI 1) dX12_payment_9 (by decide) ?_
  refine r_isub C dX12_payment_10 ?_
  refine r_i2l C dX12_payment_11 ?_
  refine r_callV C hgX (ci := 14) ml_X12_191 im_X12_in se_X12_in rfl rfl hm.k (c_X12_in l hfl G M mb x.toInt64 (lN 0) (((nI (un τ 51 51)) - (nI 1)).toInt64)) rfl (Nat.le_of_ble_eq_true rfl) ⟨Nat.le_of_ble_eq_true rfl, Nat.le_of_ble_eq_true rfl⟩ ⟨Nat.le_of_ble_eq_true rfl, Nat.le_of_ble_eq_true rfl⟩ dX12_payment_12 rfl ?_
  rintro _ _ ⟨rfl, rfl⟩
  refine V.eSt (st' := [.int (bI (decide ((lN 0) ≤ x.toInt64 ∧ x.toInt64 ≤ (((nI (un τ 51 51)) - (nI 1)).toInt64)))), .ref mb]) rfl ?_
  refine V.ei (y := bI (rng x (un τ 51 51))) (congrArg bI (rng_ct x _ (by omega))) ?_
  refine r_if_neB C (t := 22) dX12_payment_15 (by decide) (fun c15 => ?_) (fun c15 => ?_)
  · skip
    refine r_aload_n C 0 dX12_payment_22 rfl rfl ?_
    refine r_iload_n C 2 dX12_payment_23 rfl rfl ?_
    refine r_i2l C dX12_payment_24 ?_
    refine r_lconst C (v := lN 0) dX12_payment_25 (by decide) ?_
    refine r_ldc2 C (v := 3) kl_X12_407 dX12_payment_26 ?_
    refine V.el (y := lN 3) (by decide) ?_
    refine r_callV C hgX (ci := 14) ml_X12_191 im_X12_in se_X12_in rfl rfl hm.k (c_X12_in l hfl G M mb y.toInt64 (lN 0) (lN 3)) rfl (Nat.le_of_ble_eq_true rfl) ⟨Nat.le_of_ble_eq_true rfl, Nat.le_of_ble_eq_true rfl⟩ ⟨Nat.le_of_ble_eq_true rfl, Nat.le_of_ble_eq_true rfl⟩ dX12_payment_29 rfl ?_
    rintro _ _ ⟨rfl, rfl⟩
    refine V.eSt (st' := [.int (bI (decide ((lN 0) ≤ y.toInt64 ∧ y.toInt64 ≤ (lN 3)))), .ref mb]) rfl ?_
    refine V.ei (y := bI (inB y (lN 0) (lN 3))) rfl ?_
    refine r_if_eqB C (t := 39) dX12_payment_32 (by decide) (fun c32 => ?_) (fun c32 => ?_)
    · skip
      refine r_iconst C (v := nI 2) dX12_payment_39 (by decide) ?_
      refine V.ei (y := nI (cd2 (rng x (un τ 51 51)) (inB y (lN 0) (lN 3)))) (congrArg nI (by simp only [c15, c32] <;> rfl)) ?_
      exact jn40
    · skip
      refine r_iconst C (v := nI 0) dX12_payment_35 (by decide) ?_
      refine r_goto C (t := 40) dX12_payment_36 (by decide) ?_
      refine V.ei (y := nI (cd2 (rng x (un τ 51 51)) (inB y (lN 0) (lN 3)))) (congrArg nI (by simp only [c15, c32] <;> rfl)) ?_
      exact jn40
  · skip
    refine r_iconst C (v := nI 1) dX12_payment_18 (by decide) ?_
    refine r_goto C (t := 40) dX12_payment_19 (by decide) ?_
    refine V.ei (y := nI (cd2 (rng x (un τ 51 51)) (inB y (lN 0) (lN 3)))) (congrArg nI (by simp only [c15] <;> rfl)) ?_
    exact jn40
set_option maxHeartbeats 4000000 in
set_option maxRecDepth 100000 in
theorem c_X12_comeBack (l : Launch) (hfl : l.flags = flags0) (G : gW) (M : Mem) (mb : Nat) (τ : Mu) (hm : MOK (mK M) (mN M) (mR M) mb) (ht : TE (mI M) (mL M) mb τ) (hw : WF τ) (htb : TEb (mI M) (mL M) mb τ) (hlb : LTB M mb) (x : Int32) : CT l yX12_comeBack cX12_comeBack 3 (some .long) 1 0 0 26 G M [.ref mb, .int x] (fun v M' => PP mb M τ (cd2 (rng x (un τ 51 51)) (decide (un τ 50 x.toNatClampNeg ≠ 1))) (sI τ 50 x.toNatClampNeg (nI 1)) (some (.long (τ.2 49 x.toNatClampNeg))) v M') := by
  refine CT.of hfl rfl (Nat.le_of_ble_eq_true rfl) ?_
  intro pp ee ss mm ar bw mt cd C hgX hr hini
  have hnc := hw.nc.2
  have hsh := hw.sh.2
  have hnl := hw.nl.2
  have hne := hw.ne.2
  have hng := hw.ng.2
  have hop := hw.op.2
  have hnp := hw.np.2
  have ht0 := ht
  have hm0 := hm
  have htb0 := htb
  have hfo := fOut.rf [67, 50] mb M
  refine V.eLo (lo' := [(0, .ref mb), (1, .int x)]) rfl ?_
  refine r_aload_n C 0 dX12_comeBack_0 rfl rfl ?_
  refine r_iload_n C 1 dX12_comeBack_1 rfl rfl ?_
  refine r_i2l C dX12_comeBack_2 ?_
  refine r_lconst C (v := lN 0) dX12_comeBack_3 (by decide) ?_
  refine r_aload_n C 0 dX12_comeBack_4 rfl rfl ?_
  refine r_getI C fl_X12_398 rfl hm.k dX12_comeBack_5 ?_
  refine V.ei (y := nI (un τ 51 51)) ((htb.s 51 rfl).trans hw.np.1) ?_
  refine r_iconst C (v := nI 1) dX12_comeBack_8 (by decide) ?_
  refine r_isub C dX12_comeBack_9 ?_
  refine r_i2l C dX12_comeBack_10 ?_
  refine r_callV C hgX (ci := 14) ml_X12_191 im_X12_in se_X12_in rfl rfl hm.k (c_X12_in l hfl G M mb x.toInt64 (lN 0) (((nI (un τ 51 51)) - (nI 1)).toInt64)) rfl (Nat.le_of_ble_eq_true rfl) ⟨Nat.le_of_ble_eq_true rfl, Nat.le_of_ble_eq_true rfl⟩ ⟨Nat.le_of_ble_eq_true rfl, Nat.le_of_ble_eq_true rfl⟩ dX12_comeBack_11 rfl ?_
  rintro _ _ ⟨rfl, rfl⟩
  refine V.eSt (st' := [.int (bI (decide ((lN 0) ≤ x.toInt64 ∧ x.toInt64 ≤ (((nI (un τ 51 51)) - (nI 1)).toInt64))))]) rfl ?_
  refine V.ei (y := bI (rng x (un τ 51 51))) (congrArg bI (rng_ct x _ (by omega))) ?_
  refine r_istore_n C (lo' := [(2, .int (bI (rng x (un τ 51 51)))), (0, .ref mb), (1, .int x)]) dX12_comeBack_14 rfl (by decide) rfl ?_
  refine r_aload_n C 1 dX12_comeBack_15 rfl rfl ?_
  have jn39 : V pp l ee ({ frames := 1, cells := 0, slots := 0, locals := 26 } : Room) ss mm ar bw mt cd G (MQ bw (Ke G (fun v M' => PP mb M τ (cd2 (rng x (un τ 51 51)) (decide (un τ 50 x.toNatClampNeg ≠ 1))) (sI τ 50 x.toNatClampNeg (nI 1)) (some (.long (τ.2 49 x.toNatClampNeg))) v M')) ar ss 0 0 (gA G)) 3 M 0 0 39 [(2, .int (bI (rng x (un τ 51 51)))), (0, .ref mb), (1, .int x)] [.int (nI (cd2 (rng x (un τ 51 51)) (decide (un τ 50 x.toNatClampNeg ≠ 1)))), .ref mb] := by
    skip
    refine r_callV C hgX (ci := 14) ml_X12_227 im_X12_holds se_X12_holds rfl rfl hm.k (c_X12_holds l hfl G M mb hm (nI (cd2 (rng x (un τ 51 51)) (decide (un τ 50 x.toNatClampNeg ≠ 1))))) rfl (Nat.le_of_ble_eq_true rfl) ⟨Nat.le_of_ble_eq_true rfl, Nat.le_of_ble_eq_true rfl⟩ ⟨Nat.le_of_ble_eq_true rfl, Nat.le_of_ble_eq_true rfl⟩ dX12_comeBack_39 rfl ?_
    rintro _ _ ⟨rfl, rfl⟩
    refine V.eSt (st' := [.int (bI (decide (0 < nI (cd2 (rng x (un τ 51 51)) (decide (un τ 50 x.toNatClampNeg ≠ 1))))))]) rfl ?_
    refine V.ei (y := bI (decide ((cd2 (rng x (un τ 51 51)) (decide (un τ 50 x.toNatClampNeg ≠ 1))) ≠ 0))) (congrArg bI (hold_d (cd2_le _ _))) ?_
    have hfo := hfo.set0 67 (nI (cd2 (rng x (un τ 51 51)) (decide (un τ 50 x.toNatClampNeg ≠ 1)))) rfl
    have ht := ht.ws 67 (nI (cd2 (rng x (un τ 51 51)) (decide (un τ 50 x.toNatClampNeg ≠ 1)))) rfl rfl
    have htb := ((fOut.rf [67] mb _).set0 67 (nI (cd2 (rng x (un τ 51 51)) (decide (un τ 50 x.toNatClampNeg ≠ 1)))) rfl).tb rfl htb
    have h67 : mI (wI M mb 67 (nI (cd2 (rng x (un τ 51 51)) (decide (un τ 50 x.toNatClampNeg ≠ 1))))) mb 67 = nI (cd2 (rng x (un τ 51 51)) (decide (un τ 50 x.toNatClampNeg ≠ 1))) := up2_same _ _ _ _
    have hlb : LTB (wI M mb 67 (nI (cd2 (rng x (un τ 51 51)) (decide (un τ 50 x.toNatClampNeg ≠ 1))))) mb := hlb.ws 67 _
    refine r_if_eqB C (t := 49) dX12_comeBack_42 (by decide) (fun c42 => ?_) (fun c42 => ?_)
    · skip
      have c42d := of_decide_eq_false c42
      have hC : (cd2 (rng x (un τ 51 51)) (decide (un τ 50 x.toNatClampNeg ≠ 1))) = 0 := by have := c42d; omega
      obtain ⟨h1, h2⟩ := cd2_0 hC
      obtain ⟨c, hc, e_x⟩ := rng_t h1
      refine V.eLo (lo' := [(2, .int (bI (rng x (un τ 51 51)))), (0, .ref mb), (1, .int (nI c))]) (by rw [e_x]) ?_
      refine r_aload_n C 1 dX12_comeBack_49 rfl rfl ?_
      refine r_getR C (b := (ma mb 50)) fl_X12_131 rfl hm.k (hm.r 50 rfl) dX12_comeBack_50 ?_
      refine r_iload_n C 2 dX12_comeBack_53 rfl rfl ?_
      refine r_iconst C (v := nI 1) dX12_comeBack_54 (by decide) ?_
      refine r_iastoreN C (hm.i 50 20 rfl) (hm.n 50 144 rfl) (by omega) (by omega) dX12_comeBack_55 ?_
      have htb := htb.ui 50 c (nI 1) rfl
      have hlb : LTB (wI (wI M mb 67 (nI (cd2 (rng x (un τ 51 51)) (decide (un τ 50 x.toNatClampNeg ≠ 1))))) (ma mb 50) c (nI 1)) mb := hlb.wi 50 _ _ rfl
      have hfo := hfo.setI 50 c (nI 1) rfl
      have h67 : mI (wI (wI M mb 67 (nI (cd2 (rng x (un τ 51 51)) (decide (un τ 50 x.toNatClampNeg ≠ 1))))) (ma mb 50) c (nI 1)) mb 67 = _ := (up2_a _ _ (ma_0 rfl).symm).trans h67
      have ht := ht.wi 50 c (nI 1) rfl rfl rfl
      refine r_aload_n C 1 dX12_comeBack_56 rfl rfl ?_
      refine r_getR C (b := (ma mb 49)) fl_X12_128 rfl hm.k (hm.r 49 rfl) dX12_comeBack_57 ?_
      refine r_iload_n C 2 dX12_comeBack_60 rfl rfl ?_
      refine r_laloadN C (hm.i 49 21 rfl) (hm.n 49 144 rfl) (by omega) (by omega) dX12_comeBack_61 ?_
      refine V.el (y := τ.2 49 c) (htb.l 49 rfl _) ?_
      exact r_lret C hr (⟨h67, hfo.mo, hlb, fun q => absurd hC q, fun _ => ⟨by rw [e_x, nI_clamp (n := c) (by omega)], by rw [← (show sI τ 50 c (nI 1) = sI τ 50 x.toNatClampNeg (nI 1) by rw [e_x, nI_clamp (n := c) (by omega)])]; exact ht.cgk (fun k hk x => ⟨up2_a _ _ (by omega), rfl⟩), by rw [← (show sI τ 50 c (nI 1) = sI τ 50 x.toNatClampNeg (nI 1) by rw [e_x, nI_clamp (n := c) (by omega)])]; exact htb⟩, by first | exact KD.i | exact KD.l | exact KD.n⟩) (by first | exact Nat.zero_le _ | decide) (by first | exact Nat.zero_le _ | decide) dX12_comeBack_62
    · skip
      have c42d := of_decide_eq_true c42
      have hC : (cd2 (rng x (un τ 51 51)) (decide (un τ 50 x.toNatClampNeg ≠ 1))) ≠ 0 := c42d
      refine r_ldc2 C (v := (-1)) kl_X12_275 dX12_comeBack_45 ?_
      exact r_lret C hr (⟨h67, hfo.mo, hlb, fun _ => ⟨ht, htb⟩, fun q => absurd q hC, by first | exact KD.i | exact KD.l | exact KD.n⟩) (by first | exact Nat.zero_le _ | decide) (by first | exact Nat.zero_le _ | decide) dX12_comeBack_48
  refine r_iload_n C 0 dX12_comeBack_16 rfl rfl ?_
  refine r_if_neB C (t := 24) dX12_comeBack_17 (by decide) (fun c17 => ?_) (fun c17 => ?_)
  · skip
    obtain ⟨c, hc, e_x⟩ := rng_t c17
    refine r_aload_n C 1 dX12_comeBack_24 rfl rfl ?_
    refine r_getR C (b := (ma mb 50)) fl_X12_131 rfl hm.k (hm.r 50 rfl) dX12_comeBack_25 ?_
    refine r_iload_n C 2 dX12_comeBack_28 rfl rfl ?_
    refine V.ei (y := nI c) e_x ?_
    refine r_ialoadN C (hm.i 50 20 rfl) (hm.n 50 144 rfl) (by omega) (by omega) dX12_comeBack_29 ?_
    refine V.ei (y := nI (un τ 50 c)) ((htb.i 50 rfl _).trans (hw.pb c (by omega)).1) ?_
    have hb0 := (hw.pb c (by omega)).2
    refine r_iconst C (v := nI 1) dX12_comeBack_30 (by decide) ?_
    refine r_icmp_neN C (t := 38) (by omega) (by omega) dX12_comeBack_31 (by decide) (fun c31 => ?_) (fun c31 => ?_)
    · skip
      refine r_iconst C (v := nI 0) dX12_comeBack_38 (by decide) ?_
      refine V.ei (y := nI (cd2 (rng x (un τ 51 51)) (decide (un τ 50 x.toNatClampNeg ≠ 1)))) (congrArg nI (by simp only [c17, decide_eq_true (show un τ 50 x.toNatClampNeg ≠ 1 by rw [e_x, nI_clamp (n := c) (by omega)]; exact c31)] <;> rfl)) ?_
      exact jn39
    · skip
      refine r_iconst C (v := nI 2) dX12_comeBack_34 (by decide) ?_
      refine r_goto C (t := 39) dX12_comeBack_35 (by decide) ?_
      refine V.ei (y := nI (cd2 (rng x (un τ 51 51)) (decide (un τ 50 x.toNatClampNeg ≠ 1)))) (congrArg nI (by simp only [c17, show decide (un τ 50 x.toNatClampNeg ≠ 1) = false from decide_eq_false (fun q => q (by rw [e_x, nI_clamp (n := c) (by omega)]; exact c31))] <;> rfl)) ?_
      exact jn39
  · skip
    refine r_iconst C (v := nI 1) dX12_comeBack_20 (by decide) ?_
    refine r_goto C (t := 39) dX12_comeBack_21 (by decide) ?_
    refine V.ei (y := nI (cd2 (rng x (un τ 51 51)) (decide (un τ 50 x.toNatClampNeg ≠ 1)))) (congrArg nI (by simp only [c17] <;> rfl)) ?_
    exact jn39
set_option maxHeartbeats 4000000 in
set_option maxRecDepth 100000 in
theorem c_X12_owed (l : Launch) (hfl : l.flags = flags0) (G : gW) (M : Mem) (mb : Nat) (τ : Mu) (hm : MOK (mK M) (mN M) (mR M) mb) (ht : TE (mI M) (mL M) mb τ) (hw : WF τ) (htb : TEb (mI M) (mL M) mb τ) (hlb : LTB M mb) (x : Int32) : CT l yX12_owed cX12_owed 2 (some .long) 7 0 0 189 G M [.ref mb, .int x] (fun v M' => PP mb M τ (cd1 (rng x 6)) (τ) (some (.long (pdL τ x.toNatClampNeg (sumL (pyL τ x.toNatClampNeg) ((if un τ 46 46 = 24 then 23 else un τ 46 46) + 1)) (un τ 51 51)))) v M') := by
  refine CT.of hfl rfl (Nat.le_of_ble_eq_true rfl) ?_
  intro pp ee ss mm ar bw mt cd C hgX hr hini
  have hnc := hw.nc.2
  have hsh := hw.sh.2
  have hnl := hw.nl.2
  have hne := hw.ne.2
  have hng := hw.ng.2
  have hop := hw.op.2
  have hnp := hw.np.2
  have ht0 := ht
  have hm0 := hm
  have htb0 := htb
  have hfo := fOut.rf [67, 16, 21, 28, 29, 55, 56, 57, 58, 59, 60, 61, 62, 63, 64, 65, 66] mb M
  refine V.eLo (lo' := [(0, .ref mb), (1, .int x)]) rfl ?_
  refine r_aload_n C 0 dX12_owed_0 rfl rfl ?_
  have jn14 : V pp l ee ({ frames := 7, cells := 0, slots := 0, locals := 189 } : Room) ss mm ar bw mt cd G (MQ bw (Ke G (fun v M' => PP mb M τ (cd1 (rng x 6)) (τ) (some (.long (pdL τ x.toNatClampNeg (sumL (pyL τ x.toNatClampNeg) ((if un τ 46 46 = 24 then 23 else un τ 46 46) + 1)) (un τ 51 51)))) v M')) ar ss 0 0 (gA G)) 2 M 0 0 14 [(0, .ref mb), (1, .int x)] [.int (nI (cd1 (rng x 6))), .ref mb] := by
    skip
    refine r_callV C hgX (ci := 14) ml_X12_227 im_X12_holds se_X12_holds rfl rfl hm.k (c_X12_holds l hfl G M mb hm (nI (cd1 (rng x 6)))) rfl (Nat.le_of_ble_eq_true rfl) ⟨Nat.le_of_ble_eq_true rfl, Nat.le_of_ble_eq_true rfl⟩ ⟨Nat.le_of_ble_eq_true rfl, Nat.le_of_ble_eq_true rfl⟩ dX12_owed_14 rfl ?_
    rintro _ _ ⟨rfl, rfl⟩
    refine V.eSt (st' := [.int (bI (decide (0 < nI (cd1 (rng x 6)))))]) rfl ?_
    refine V.ei (y := bI (decide ((cd1 (rng x 6)) ≠ 0))) (congrArg bI (hold_d (cd1_le _))) ?_
    have hfo := hfo.set0 67 (nI (cd1 (rng x 6))) rfl
    have ht := ht.ws 67 (nI (cd1 (rng x 6))) rfl rfl
    have htb := ((fOut.rf [67] mb _).set0 67 (nI (cd1 (rng x 6))) rfl).tb rfl htb
    have h67 : mI (wI M mb 67 (nI (cd1 (rng x 6)))) mb 67 = nI (cd1 (rng x 6)) := up2_same _ _ _ _
    have hlb : LTB (wI M mb 67 (nI (cd1 (rng x 6)))) mb := hlb.ws 67 _
    refine r_if_eqB C (t := 26) dX12_owed_17 (by decide) (fun c17 => ?_) (fun c17 => ?_)
    · skip
      have c17d := of_decide_eq_false c17
      have hC : (cd1 (rng x 6)) = 0 := by have := c17d; omega
      obtain ⟨c, hc, e_x⟩ := rng_t (cd1_0 hC)
      have hop := hw.op.2
      have hwb := hw.b
      refine V.eLo (lo' := [(0, .ref mb), (1, .int (nI c))]) (by rw [e_x]) ?_
      refine r_aload_n C 0 dX12_owed_26 rfl rfl ?_
      refine r_iload_n C 1 dX12_owed_27 rfl rfl ?_
      have jn46 : V pp l ee ({ frames := 7, cells := 0, slots := 0, locals := 189 } : Room) ss mm ar bw mt cd G (MQ bw (Ke G (fun v M' => PP mb M τ (cd1 (rng x 6)) (τ) (some (.long (pdL τ x.toNatClampNeg (sumL (pyL τ x.toNatClampNeg) ((if un τ 46 46 = 24 then 23 else un τ 46 46) + 1)) (un τ 51 51)))) v M')) ar ss 0 0 (gA G)) 2 (wI M mb 67 (nI (cd1 (rng x 6)))) 0 0 46 [(0, .ref mb), (1, .int (nI c))] [.int (nI (if un τ 46 46 = 24 then 23 else un τ 46 46)), .int (nI c), .ref mb] := by
        skip
        have hif : (if un τ 46 46 = 24 then 23 else un τ 46 46) < 24 := by split <;> omega
        refine r_callV C hgX (ci := 14) ml_X12_401 im_X12_owes se_X12_owes rfl rfl (show mK (wI M mb 67 (nI (cd1 (rng x 6)))) mb = 14 + 1 from hm.k) (c_X12_owes l hfl G (wI M mb 67 (nI (cd1 (rng x 6)))) mb τ hm ht hw τ htb hwb c (if un τ 46 46 = 24 then 23 else un τ 46 46) (by omega) (by omega) (hlb)) rfl (Nat.le_of_ble_eq_true rfl) ⟨Nat.le_of_ble_eq_true rfl, Nat.le_of_ble_eq_true rfl⟩ ⟨Nat.le_of_ble_eq_true rfl, Nat.le_of_ble_eq_true rfl⟩ dX12_owed_46 rfl ?_
        rintro _ My1 ⟨rfl, hfo1, hbk1, hlb1⟩
        have hm := hfo1.ok hm
        have ht := hfo1.te rfl ht
        have htb := hfo1.tb rfl htb
        have h67 := (hfo1.s 67 rfl).trans h67
        have hfo := hfo.tr (hfo1.mono rfl)
        have hlb := hlb1
        have hbk := hbk1
        refine V.eSt (st' := [.long (pdL τ c (sumL (pyL τ c) ((if un τ 46 46 = 24 then 23 else un τ 46 46) + 1)) (un τ 51 51))]) rfl ?_
        exact r_lret C hr (⟨h67, hfo.mo, hlb, fun q => absurd hC q, fun _ => ⟨by rw [e_x, nI_clamp (n := c) (by omega)], ht, htb.cg rfl rfl (fun _ => ⟨rfl, rfl⟩) (fun _ => ⟨rfl, rfl⟩) (fun _ => ⟨rfl, rfl⟩) (fun _ => ⟨rfl, rfl⟩) (fun _ => ⟨rfl, rfl⟩) (fun _ => ⟨rfl, rfl⟩) (fun _ => ⟨rfl, rfl⟩) ⟩, by first | exact KD.i | exact KD.l | exact KD.n⟩) (by first | exact Nat.zero_le _ | decide) (by first | exact Nat.zero_le _ | decide) dX12_owed_49
      refine r_aload_n C 0 dX12_owed_28 rfl rfl ?_
      refine r_getI C fl_X12_395 rfl hm.k dX12_owed_29 ?_
      refine V.ei (y := nI (un τ 46 46)) ((htb.s 46 rfl).trans hw.op.1) ?_
      refine r_bipush C (v := nI 24) dX12_owed_32 (by decide) ?_
      refine r_icmp_neN C (t := 42) (by omega) (by omega) dX12_owed_34 (by decide) (fun c34 => ?_) (fun c34 => ?_)
      · skip
        refine r_aload_n C 0 dX12_owed_42 rfl rfl ?_
        refine r_getI C fl_X12_395 rfl hm.k dX12_owed_43 ?_
        refine V.ei (y := nI (un τ 46 46)) ((htb.s 46 rfl).trans hw.op.1) ?_
        refine V.ei (y := nI (if un τ 46 46 = 24 then 23 else un τ 46 46)) (congrArg nI (by rw [if_neg c34])) ?_
        exact jn46
      · skip
        refine r_bipush C (v := nI 23) dX12_owed_37 (by decide) ?_
        refine r_goto C (t := 46) dX12_owed_39 (by decide) ?_
        refine V.ei (y := nI (if un τ 46 46 = 24 then 23 else un τ 46 46)) (congrArg nI (by rw [if_pos c34])) ?_
        exact jn46
    · skip
      have c17d := of_decide_eq_true c17
      have hC : (cd1 (rng x 6)) ≠ 0 := c17d
      refine r_ldc2 C (v := (-1)) kl_X12_275 dX12_owed_20 ?_
      refine r_goto C (t := 49) dX12_owed_23 (by decide) ?_
      exact r_lret C hr (⟨h67, hfo.mo, hlb, fun _ => ⟨ht, htb⟩, fun q => absurd q hC, by first | exact KD.i | exact KD.l | exact KD.n⟩) (by first | exact Nat.zero_le _ | decide) (by first | exact Nat.zero_le _ | decide) dX12_owed_49
  refine r_aload_n C 0 dX12_owed_1 rfl rfl ?_
  refine r_iload_n C 1 dX12_owed_2 rfl rfl ?_
  refine r_callV C hgX (ci := 14) ml_X12_212 im_X12_isPerson se_X12_isPerson rfl rfl hm.k (c_X12_isPerson l hfl G M mb hm x) rfl (Nat.le_of_ble_eq_true rfl) ⟨Nat.le_of_ble_eq_true rfl, Nat.le_of_ble_eq_true rfl⟩ ⟨Nat.le_of_ble_eq_true rfl, Nat.le_of_ble_eq_true rfl⟩ dX12_owed_3 rfl ?_
  rintro _ _ ⟨rfl, rfl⟩
  refine V.eSt (st' := [.int (bI (rng x 6)), .ref mb]) rfl ?_
  refine r_if_eqB C (t := 13) dX12_owed_6 (by decide) (fun c6 => ?_) (fun c6 => ?_)
  · skip
    refine r_iconst C (v := nI 1) dX12_owed_13 (by decide) ?_
    refine V.ei (y := nI (cd1 (rng x 6))) (congrArg nI (by simp only [c6] <;> rfl)) ?_
    exact jn14
  · skip
    refine r_iconst C (v := nI 0) dX12_owed_9 (by decide) ?_
    refine r_goto C (t := 14) dX12_owed_10 (by decide) ?_
    refine V.ei (y := nI (cd1 (rng x 6))) (congrArg nI (by simp only [c6] <;> rfl)) ?_
    exact jn14
set_option maxHeartbeats 4000000 in
set_option maxRecDepth 100000 in
theorem c_X12_filed (l : Launch) (hfl : l.flags = flags0) (G : gW) (M : Mem) (mb : Nat) (τ : Mu) (hm : MOK (mK M) (mN M) (mR M) mb) (ht : TE (mI M) (mL M) mb τ) (hw : WF τ) (htb : TEb (mI M) (mL M) mb τ) (hlb : LTB M mb) (x y : Int32) (b : Bool) : CT l yX12_filed cX12_filed 4 (some .long) 2 0 0 47 G M [.ref mb, .int x, .int y, .int (bI b)] (fun v M' => PP mb M τ (cd1 (rng x 3 && rng y 24)) (τ) (some (.long (if b = true then τ.2 52 (24 * x.toNatClampNeg + y.toNatClampNeg) else τ.2 53 (24 * x.toNatClampNeg + y.toNatClampNeg)))) v M') := by
  refine CT.of hfl rfl (Nat.le_of_ble_eq_true rfl) ?_
  intro pp ee ss mm ar bw mt cd C hgX hr hini
  have hnc := hw.nc.2
  have hsh := hw.sh.2
  have hnl := hw.nl.2
  have hne := hw.ne.2
  have hng := hw.ng.2
  have hop := hw.op.2
  have hnp := hw.np.2
  have ht0 := ht
  have hm0 := hm
  have htb0 := htb
  have hfo := fOut.rf [67] mb M
  refine V.eLo (lo' := [(0, .ref mb), (1, .int x), (2, .int y), (3, .int (bI b))]) rfl ?_
  refine r_aload_n C 0 dX12_filed_0 rfl rfl ?_
  have jn22 : V pp l ee ({ frames := 2, cells := 0, slots := 0, locals := 47 } : Room) ss mm ar bw mt cd G (MQ bw (Ke G (fun v M' => PP mb M τ (cd1 (rng x 3 && rng y 24)) (τ) (some (.long (if b = true then τ.2 52 (24 * x.toNatClampNeg + y.toNatClampNeg) else τ.2 53 (24 * x.toNatClampNeg + y.toNatClampNeg)))) v M')) ar ss 0 0 (gA G)) 4 M 0 0 22 [(0, .ref mb), (1, .int x), (2, .int y), (3, .int (bI b))] [.int (nI (cd1 (rng x 3 && rng y 24))), .ref mb] := by
    skip
    refine r_callV C hgX (ci := 14) ml_X12_227 im_X12_holds se_X12_holds rfl rfl hm.k (c_X12_holds l hfl G M mb hm (nI (cd1 (rng x 3 && rng y 24)))) rfl (Nat.le_of_ble_eq_true rfl) ⟨Nat.le_of_ble_eq_true rfl, Nat.le_of_ble_eq_true rfl⟩ ⟨Nat.le_of_ble_eq_true rfl, Nat.le_of_ble_eq_true rfl⟩ dX12_filed_22 rfl ?_
    rintro _ _ ⟨rfl, rfl⟩
    refine V.eSt (st' := [.int (bI (decide (0 < nI (cd1 (rng x 3 && rng y 24)))))]) rfl ?_
    refine V.ei (y := bI (decide ((cd1 (rng x 3 && rng y 24)) ≠ 0))) (congrArg bI (hold_d (cd1_le _))) ?_
    have hfo := hfo.set0 67 (nI (cd1 (rng x 3 && rng y 24))) rfl
    have ht := ht.ws 67 (nI (cd1 (rng x 3 && rng y 24))) rfl rfl
    have htb := ((fOut.rf [67] mb _).set0 67 (nI (cd1 (rng x 3 && rng y 24))) rfl).tb rfl htb
    have h67 : mI (wI M mb 67 (nI (cd1 (rng x 3 && rng y 24)))) mb 67 = nI (cd1 (rng x 3 && rng y 24)) := up2_same _ _ _ _
    have hlb : LTB (wI M mb 67 (nI (cd1 (rng x 3 && rng y 24)))) mb := hlb.ws 67 _
    refine r_if_eqB C (t := 32) dX12_filed_25 (by decide) (fun c25 => ?_) (fun c25 => ?_)
    · skip
      have c25d := of_decide_eq_false c25
      have hC : (cd1 (rng x 3 && rng y 24)) = 0 := by have := c25d; omega
      obtain ⟨hx, hy⟩ := Bool.and_eq_true_iff.mp (cd1_0 hC)
      obtain ⟨c, hc, e_x⟩ := rng_t hx
      obtain ⟨d, hd, e_y⟩ := rng_t hy
      refine V.eLo (lo' := [(0, .ref mb), (1, .int (nI c)), (2, .int (nI d)), (3, .int (bI b))]) (by rw [e_x, e_y]) ?_
      refine r_iload_n C 3 dX12_filed_32 rfl rfl ?_
      refine r_if_eqB C (t := 50) dX12_filed_33 (by decide) (fun c33 => ?_) (fun c33 => ?_)
      · skip
        refine r_aload_n C 0 dX12_filed_50 rfl rfl ?_
        refine r_getR C (b := (ma mb 53)) fl_X12_137 rfl hm.k (hm.r 53 rfl) dX12_filed_51 ?_
        refine r_bipush C (v := nI 24) dX12_filed_54 (by decide) ?_
        refine r_iload_n C 1 dX12_filed_56 rfl rfl ?_
        refine r_imulN C dX12_filed_57 ?_
        refine r_iload_n C 2 dX12_filed_58 rfl rfl ?_
        refine r_iaddN C dX12_filed_59 ?_
        refine r_laloadN C (hm.i 53 21 rfl) (hm.n 53 72 rfl) (by omega) (by omega) dX12_filed_60 ?_
        refine V.el (y := τ.2 53 (24 * c + d)) (htb.l 53 rfl _) ?_
        exact r_lret C hr (⟨h67, hfo.mo, hlb, fun q => absurd hC q, fun _ => ⟨by rw [e_x, e_y, nI_clamp (n := c) (by omega), nI_clamp (n := d) (by omega), c33]; rfl, ht, htb.cg rfl rfl (fun _ => ⟨rfl, rfl⟩) (fun _ => ⟨rfl, rfl⟩) (fun _ => ⟨rfl, rfl⟩) (fun _ => ⟨rfl, rfl⟩) (fun _ => ⟨rfl, rfl⟩) (fun _ => ⟨rfl, rfl⟩) (fun _ => ⟨rfl, rfl⟩) ⟩, by first | exact KD.i | exact KD.l | exact KD.n⟩) (by first | exact Nat.zero_le _ | decide) (by first | exact Nat.zero_le _ | decide) dX12_filed_61
      · skip
        refine r_aload_n C 0 dX12_filed_36 rfl rfl ?_
        refine r_getR C (b := (ma mb 52)) fl_X12_134 rfl hm.k (hm.r 52 rfl) dX12_filed_37 ?_
        refine r_bipush C (v := nI 24) dX12_filed_40 (by decide) ?_
        refine r_iload_n C 1 dX12_filed_42 rfl rfl ?_
        refine r_imulN C dX12_filed_43 ?_
        refine r_iload_n C 2 dX12_filed_44 rfl rfl ?_
        refine r_iaddN C dX12_filed_45 ?_
        refine r_laloadN C (hm.i 52 21 rfl) (hm.n 52 72 rfl) (by omega) (by omega) dX12_filed_46 ?_
        refine V.el (y := τ.2 52 (24 * c + d)) (htb.l 52 rfl _) ?_
        refine r_goto C (t := 61) dX12_filed_47 (by decide) ?_
        exact r_lret C hr (⟨h67, hfo.mo, hlb, fun q => absurd hC q, fun _ => ⟨by rw [e_x, e_y, nI_clamp (n := c) (by omega), nI_clamp (n := d) (by omega), c33]; rfl, ht, htb.cg rfl rfl (fun _ => ⟨rfl, rfl⟩) (fun _ => ⟨rfl, rfl⟩) (fun _ => ⟨rfl, rfl⟩) (fun _ => ⟨rfl, rfl⟩) (fun _ => ⟨rfl, rfl⟩) (fun _ => ⟨rfl, rfl⟩) (fun _ => ⟨rfl, rfl⟩) ⟩, by first | exact KD.i | exact KD.l | exact KD.n⟩) (by first | exact Nat.zero_le _ | decide) (by first | exact Nat.zero_le _ | decide) dX12_filed_61
    · skip
      have c25d := of_decide_eq_true c25
      have hC : (cd1 (rng x 3 && rng y 24)) ≠ 0 := c25d
      refine r_ldc2 C (v := (-1)) kl_X12_275 dX12_filed_28 ?_
      exact r_lret C hr (⟨h67, hfo.mo, hlb, fun _ => ⟨ht, htb⟩, fun q => absurd q hC, by first | exact KD.i | exact KD.l | exact KD.n⟩) (by first | exact Nat.zero_le _ | decide) (by first | exact Nat.zero_le _ | decide) dX12_filed_31
  refine r_aload_n C 0 dX12_filed_1 rfl rfl ?_
  refine r_iload_n C 1 dX12_filed_2 rfl rfl ?_
  refine r_callV C hgX (ci := 14) ml_X12_215 im_X12_isPlace se_X12_isPlace rfl rfl hm.k (c_X12_isPlace l hfl G M mb hm x) rfl (Nat.le_of_ble_eq_true rfl) ⟨Nat.le_of_ble_eq_true rfl, Nat.le_of_ble_eq_true rfl⟩ ⟨Nat.le_of_ble_eq_true rfl, Nat.le_of_ble_eq_true rfl⟩ dX12_filed_3 rfl ?_
  rintro _ _ ⟨rfl, rfl⟩
  refine V.eSt (st' := [.int (bI (rng x 3)), .ref mb]) rfl ?_
  refine r_if_eqB C (t := 21) dX12_filed_6 (by decide) (fun c6 => ?_) (fun c6 => ?_)
  · skip
    refine r_iconst C (v := nI 1) dX12_filed_21 (by decide) ?_
    refine V.ei (y := nI (cd1 (rng x 3 && rng y 24))) (congrArg nI (by simp only [c6] <;> rfl)) ?_
    exact jn22
  · skip
    refine r_aload_n C 0 dX12_filed_9 rfl rfl ?_
    refine r_iload_n C 2 dX12_filed_10 rfl rfl ?_
    refine r_callV C hgX (ci := 14) ml_X12_272 im_X12_isMonth se_X12_isMonth rfl rfl hm.k (c_X12_isMonth l hfl G M mb hm y) rfl (Nat.le_of_ble_eq_true rfl) ⟨Nat.le_of_ble_eq_true rfl, Nat.le_of_ble_eq_true rfl⟩ ⟨Nat.le_of_ble_eq_true rfl, Nat.le_of_ble_eq_true rfl⟩ dX12_filed_11 rfl ?_
    rintro _ _ ⟨rfl, rfl⟩
    refine V.eSt (st' := [.int (bI (rng y 24)), .ref mb]) rfl ?_
    refine r_if_eqB C (t := 21) dX12_filed_14 (by decide) (fun c14 => ?_) (fun c14 => ?_)
    · skip
      refine r_iconst C (v := nI 1) dX12_filed_21 (by decide) ?_
      refine V.ei (y := nI (cd1 (rng x 3 && rng y 24))) (congrArg nI (by simp only [c6, c14] <;> rfl)) ?_
      exact jn22
    · skip
      refine r_iconst C (v := nI 0) dX12_filed_17 (by decide) ?_
      refine r_goto C (t := 22) dX12_filed_18 (by decide) ?_
      refine V.ei (y := nI (cd1 (rng x 3 && rng y 24))) (congrArg nI (by simp only [c6, c14] <;> rfl)) ?_
      exact jn22
set_option maxHeartbeats 4000000 in
set_option maxRecDepth 100000 in
theorem c_X12_corrections (l : Launch) (hfl : l.flags = flags0) (G : gW) (M : Mem) (mb : Nat) (τ : Mu) (hm : MOK (mK M) (mN M) (mR M) mb) (ht : TE (mI M) (mL M) mb τ) (hw : WF τ) (htb : TEb (mI M) (mL M) mb τ) (hlb : LTB M mb) (x y : Int32) : CT l yX12_corrections cX12_corrections 3 (some .int) 2 0 0 47 G M [.ref mb, .int x, .int y] (fun v M' => PP mb M τ (cd1 (rng x 3 && rng y 24)) (τ) (some (.int (τ.1 54 (24 * x.toNatClampNeg + y.toNatClampNeg)))) v M') := by
  refine CT.of hfl rfl (Nat.le_of_ble_eq_true rfl) ?_
  intro pp ee ss mm ar bw mt cd C hgX hr hini
  have hnc := hw.nc.2
  have hsh := hw.sh.2
  have hnl := hw.nl.2
  have hne := hw.ne.2
  have hng := hw.ng.2
  have hop := hw.op.2
  have hnp := hw.np.2
  have ht0 := ht
  have hm0 := hm
  have htb0 := htb
  have hfo := fOut.rf [67] mb M
  refine V.eLo (lo' := [(0, .ref mb), (1, .int x), (2, .int y)]) rfl ?_
  refine r_aload_n C 0 dX12_corrections_0 rfl rfl ?_
  have jn22 : V pp l ee ({ frames := 2, cells := 0, slots := 0, locals := 47 } : Room) ss mm ar bw mt cd G (MQ bw (Ke G (fun v M' => PP mb M τ (cd1 (rng x 3 && rng y 24)) (τ) (some (.int (τ.1 54 (24 * x.toNatClampNeg + y.toNatClampNeg)))) v M')) ar ss 0 0 (gA G)) 3 M 0 0 22 [(0, .ref mb), (1, .int x), (2, .int y)] [.int (nI (cd1 (rng x 3 && rng y 24))), .ref mb] := by
    skip
    refine r_callV C hgX (ci := 14) ml_X12_227 im_X12_holds se_X12_holds rfl rfl hm.k (c_X12_holds l hfl G M mb hm (nI (cd1 (rng x 3 && rng y 24)))) rfl (Nat.le_of_ble_eq_true rfl) ⟨Nat.le_of_ble_eq_true rfl, Nat.le_of_ble_eq_true rfl⟩ ⟨Nat.le_of_ble_eq_true rfl, Nat.le_of_ble_eq_true rfl⟩ dX12_corrections_22 rfl ?_
    rintro _ _ ⟨rfl, rfl⟩
    refine V.eSt (st' := [.int (bI (decide (0 < nI (cd1 (rng x 3 && rng y 24)))))]) rfl ?_
    refine V.ei (y := bI (decide ((cd1 (rng x 3 && rng y 24)) ≠ 0))) (congrArg bI (hold_d (cd1_le _))) ?_
    have hfo := hfo.set0 67 (nI (cd1 (rng x 3 && rng y 24))) rfl
    have ht := ht.ws 67 (nI (cd1 (rng x 3 && rng y 24))) rfl rfl
    have htb := ((fOut.rf [67] mb _).set0 67 (nI (cd1 (rng x 3 && rng y 24))) rfl).tb rfl htb
    have h67 : mI (wI M mb 67 (nI (cd1 (rng x 3 && rng y 24)))) mb 67 = nI (cd1 (rng x 3 && rng y 24)) := up2_same _ _ _ _
    have hlb : LTB (wI M mb 67 (nI (cd1 (rng x 3 && rng y 24)))) mb := hlb.ws 67 _
    refine r_if_eqB C (t := 32) dX12_corrections_25 (by decide) (fun c25 => ?_) (fun c25 => ?_)
    · skip
      have c25d := of_decide_eq_false c25
      have hC : (cd1 (rng x 3 && rng y 24)) = 0 := by have := c25d; omega
      obtain ⟨hx, hy⟩ := Bool.and_eq_true_iff.mp (cd1_0 hC)
      obtain ⟨c, hc, e_x⟩ := rng_t hx
      obtain ⟨d, hd, e_y⟩ := rng_t hy
      refine V.eLo (lo' := [(0, .ref mb), (1, .int (nI c)), (2, .int (nI d))]) (by rw [e_x, e_y]) ?_
      refine r_aload_n C 0 dX12_corrections_32 rfl rfl ?_
      refine r_getR C (b := (ma mb 54)) fl_X12_140 rfl hm.k (hm.r 54 rfl) dX12_corrections_33 ?_
      refine r_bipush C (v := nI 24) dX12_corrections_36 (by decide) ?_
      refine r_iload_n C 1 dX12_corrections_38 rfl rfl ?_
      refine r_imulN C dX12_corrections_39 ?_
      refine r_iload_n C 2 dX12_corrections_40 rfl rfl ?_
      refine r_iaddN C dX12_corrections_41 ?_
      refine r_ialoadN C (hm.i 54 20 rfl) (hm.n 54 72 rfl) (by omega) (by omega) dX12_corrections_42 ?_
      refine V.ei (y := τ.1 54 (24 * c + d)) (htb.i 54 rfl _) ?_
      exact r_iret C hr (⟨h67, hfo.mo, hlb, fun q => absurd hC q, fun _ => ⟨by rw [e_x, e_y, nI_clamp (n := c) (by omega), nI_clamp (n := d) (by omega)], ht, htb.cg rfl rfl (fun _ => ⟨rfl, rfl⟩) (fun _ => ⟨rfl, rfl⟩) (fun _ => ⟨rfl, rfl⟩) (fun _ => ⟨rfl, rfl⟩) (fun _ => ⟨rfl, rfl⟩) (fun _ => ⟨rfl, rfl⟩) (fun _ => ⟨rfl, rfl⟩) ⟩, by first | exact KD.i | exact KD.l | exact KD.n⟩) (by first | exact Nat.zero_le _ | decide) (by first | exact Nat.zero_le _ | decide) dX12_corrections_43
    · skip
      have c25d := of_decide_eq_true c25
      have hC : (cd1 (rng x 3 && rng y 24)) ≠ 0 := c25d
      refine r_iconst C (v := (-1)) dX12_corrections_28 (by decide) ?_
      refine r_goto C (t := 43) dX12_corrections_29 (by decide) ?_
      exact r_iret C hr (⟨h67, hfo.mo, hlb, fun _ => ⟨ht, htb⟩, fun q => absurd q hC, by first | exact KD.i | exact KD.l | exact KD.n⟩) (by first | exact Nat.zero_le _ | decide) (by first | exact Nat.zero_le _ | decide) dX12_corrections_43
  refine r_aload_n C 0 dX12_corrections_1 rfl rfl ?_
  refine r_iload_n C 1 dX12_corrections_2 rfl rfl ?_
  refine r_callV C hgX (ci := 14) ml_X12_215 im_X12_isPlace se_X12_isPlace rfl rfl hm.k (c_X12_isPlace l hfl G M mb hm x) rfl (Nat.le_of_ble_eq_true rfl) ⟨Nat.le_of_ble_eq_true rfl, Nat.le_of_ble_eq_true rfl⟩ ⟨Nat.le_of_ble_eq_true rfl, Nat.le_of_ble_eq_true rfl⟩ dX12_corrections_3 rfl ?_
  rintro _ _ ⟨rfl, rfl⟩
  refine V.eSt (st' := [.int (bI (rng x 3)), .ref mb]) rfl ?_
  refine r_if_eqB C (t := 21) dX12_corrections_6 (by decide) (fun c6 => ?_) (fun c6 => ?_)
  · skip
    refine r_iconst C (v := nI 1) dX12_corrections_21 (by decide) ?_
    refine V.ei (y := nI (cd1 (rng x 3 && rng y 24))) (congrArg nI (by simp only [c6] <;> rfl)) ?_
    exact jn22
  · skip
    refine r_aload_n C 0 dX12_corrections_9 rfl rfl ?_
    refine r_iload_n C 2 dX12_corrections_10 rfl rfl ?_
    refine r_callV C hgX (ci := 14) ml_X12_272 im_X12_isMonth se_X12_isMonth rfl rfl hm.k (c_X12_isMonth l hfl G M mb hm y) rfl (Nat.le_of_ble_eq_true rfl) ⟨Nat.le_of_ble_eq_true rfl, Nat.le_of_ble_eq_true rfl⟩ ⟨Nat.le_of_ble_eq_true rfl, Nat.le_of_ble_eq_true rfl⟩ dX12_corrections_11 rfl ?_
    rintro _ _ ⟨rfl, rfl⟩
    refine V.eSt (st' := [.int (bI (rng y 24)), .ref mb]) rfl ?_
    refine r_if_eqB C (t := 21) dX12_corrections_14 (by decide) (fun c14 => ?_) (fun c14 => ?_)
    · skip
      refine r_iconst C (v := nI 1) dX12_corrections_21 (by decide) ?_
      refine V.ei (y := nI (cd1 (rng x 3 && rng y 24))) (congrArg nI (by simp only [c6, c14] <;> rfl)) ?_
      exact jn22
    · skip
      refine r_iconst C (v := nI 0) dX12_corrections_17 (by decide) ?_
      refine r_goto C (t := 22) dX12_corrections_18 (by decide) ?_
      refine V.ei (y := nI (cd1 (rng x 3 && rng y 24))) (congrArg nI (by simp only [c6, c14] <;> rfl)) ?_
      exact jn22
set_option maxHeartbeats 4000000 in
set_option maxRecDepth 100000 in
theorem c_X12_order (l : Launch) (hfl : l.flags = flags0) (G : gW) (M : Mem) (mb : Nat) (τ : Mu) (hm : MOK (mK M) (mN M) (mR M) mb) (ht : TE (mI M) (mL M) mb τ) (hw : WF τ) (htb : TEb (mI M) (mL M) mb τ) (hlb : LTB M mb) (x : Int32) : CT l yX12_order cX12_order 2 (some .int) 1 0 0 26 G M [.ref mb, .int x] (fun v M' => PP mb M τ (cd1 (rng x (un τ 26 26))) (τ) (some (.int (nI (un τ 27 x.toNatClampNeg)))) v M') := by
  refine CT.of hfl rfl (Nat.le_of_ble_eq_true rfl) ?_
  intro pp ee ss mm ar bw mt cd C hgX hr hini
  have hnc := hw.nc.2
  have hsh := hw.sh.2
  have hnl := hw.nl.2
  have hne := hw.ne.2
  have hng := hw.ng.2
  have hop := hw.op.2
  have hnp := hw.np.2
  have ht0 := ht
  have hm0 := hm
  have htb0 := htb
  have hfo := fOut.rf [67] mb M
  refine V.eLo (lo' := [(0, .ref mb), (1, .int x)]) rfl ?_
  refine r_aload_n C 0 dX12_order_0 rfl rfl ?_
  have jn23 : V pp l ee ({ frames := 1, cells := 0, slots := 0, locals := 26 } : Room) ss mm ar bw mt cd G (MQ bw (Ke G (fun v M' => PP mb M τ (cd1 (rng x (un τ 26 26))) (τ) (some (.int (nI (un τ 27 x.toNatClampNeg)))) v M')) ar ss 0 0 (gA G)) 2 M 0 0 23 [(0, .ref mb), (1, .int x)] [.int (nI (cd1 (rng x (un τ 26 26)))), .ref mb] := by
    skip
    refine r_callV C hgX (ci := 14) ml_X12_227 im_X12_holds se_X12_holds rfl rfl hm.k (c_X12_holds l hfl G M mb hm (nI (cd1 (rng x (un τ 26 26))))) rfl (Nat.le_of_ble_eq_true rfl) ⟨Nat.le_of_ble_eq_true rfl, Nat.le_of_ble_eq_true rfl⟩ ⟨Nat.le_of_ble_eq_true rfl, Nat.le_of_ble_eq_true rfl⟩ dX12_order_23 rfl ?_
    rintro _ _ ⟨rfl, rfl⟩
    refine V.eSt (st' := [.int (bI (decide (0 < nI (cd1 (rng x (un τ 26 26))))))]) rfl ?_
    refine V.ei (y := bI (decide ((cd1 (rng x (un τ 26 26))) ≠ 0))) (congrArg bI (hold_d (cd1_le _))) ?_
    have hfo := hfo.set0 67 (nI (cd1 (rng x (un τ 26 26)))) rfl
    have ht := ht.ws 67 (nI (cd1 (rng x (un τ 26 26)))) rfl rfl
    have htb := ((fOut.rf [67] mb _).set0 67 (nI (cd1 (rng x (un τ 26 26)))) rfl).tb rfl htb
    have h67 : mI (wI M mb 67 (nI (cd1 (rng x (un τ 26 26))))) mb 67 = nI (cd1 (rng x (un τ 26 26))) := up2_same _ _ _ _
    have hlb : LTB (wI M mb 67 (nI (cd1 (rng x (un τ 26 26))))) mb := hlb.ws 67 _
    refine r_if_eqB C (t := 33) dX12_order_26 (by decide) (fun c26 => ?_) (fun c26 => ?_)
    · skip
      have c26d := of_decide_eq_false c26
      have hC : (cd1 (rng x (un τ 26 26))) = 0 := by have := c26d; omega
      obtain ⟨c, hc, e_x⟩ := rng_t (cd1_0 hC)
      refine V.eLo (lo' := [(0, .ref mb), (1, .int (nI c))]) (by rw [e_x]) ?_
      refine r_aload_n C 0 dX12_order_33 rfl rfl ?_
      refine r_getR C (b := (ma mb 27)) fl_X12_67 rfl hm.k (hm.r 27 rfl) dX12_order_34 ?_
      refine r_iload_n C 1 dX12_order_37 rfl rfl ?_
      refine r_ialoadN C (hm.i 27 20 rfl) (hm.n 27 6 rfl) (by omega) (by omega) dX12_order_38 ?_
      refine V.ei (y := nI (un τ 27 c)) ((ht.i 27 rfl _).trans ((hw.od c (by omega)).1).1) ?_
      have hb0 := ((hw.od c (by omega)).1).2
      exact r_iret C hr (⟨h67, hfo.mo, hlb, fun q => absurd hC q, fun _ => ⟨by rw [e_x, nI_clamp (n := c) (by omega)], ht, htb.cg rfl rfl (fun _ => ⟨rfl, rfl⟩) (fun _ => ⟨rfl, rfl⟩) (fun _ => ⟨rfl, rfl⟩) (fun _ => ⟨rfl, rfl⟩) (fun _ => ⟨rfl, rfl⟩) (fun _ => ⟨rfl, rfl⟩) (fun _ => ⟨rfl, rfl⟩) ⟩, by first | exact KD.i | exact KD.l | exact KD.n⟩) (by first | exact Nat.zero_le _ | decide) (by first | exact Nat.zero_le _ | decide) dX12_order_39
    · skip
      have c26d := of_decide_eq_true c26
      have hC : (cd1 (rng x (un τ 26 26))) ≠ 0 := c26d
      refine r_iconst C (v := (-1)) dX12_order_29 (by decide) ?_
      refine r_goto C (t := 39) dX12_order_30 (by decide) ?_
      exact r_iret C hr (⟨h67, hfo.mo, hlb, fun _ => ⟨ht, htb⟩, fun q => absurd q hC, by first | exact KD.i | exact KD.l | exact KD.n⟩) (by first | exact Nat.zero_le _ | decide) (by first | exact Nat.zero_le _ | decide) dX12_order_39
  refine r_aload_n C 0 dX12_order_1 rfl rfl ?_
  refine r_iload_n C 1 dX12_order_2 rfl rfl ?_
  refine r_i2l C dX12_order_3 ?_
  refine r_lconst C (v := lN 0) dX12_order_4 (by decide) ?_
  refine r_aload_n C 0 dX12_order_5 rfl rfl ?_
  refine r_getI C fl_X12_316 rfl hm.k dX12_order_6 ?_
  refine V.ei (y := nI (un τ 26 26)) ((ht.s 26 rfl).trans hw.ne.1) ?_
  refine r_iconst C (v := nI 1) dX12_order_9 (by decide) ?_
  refine r_isub C dX12_order_10 ?_
  refine r_i2l C dX12_order_11 ?_
  refine r_callV C hgX (ci := 14) ml_X12_191 im_X12_in se_X12_in rfl rfl hm.k (c_X12_in l hfl G M mb x.toInt64 (lN 0) (((nI (un τ 26 26)) - (nI 1)).toInt64)) rfl (Nat.le_of_ble_eq_true rfl) ⟨Nat.le_of_ble_eq_true rfl, Nat.le_of_ble_eq_true rfl⟩ ⟨Nat.le_of_ble_eq_true rfl, Nat.le_of_ble_eq_true rfl⟩ dX12_order_12 rfl ?_
  rintro _ _ ⟨rfl, rfl⟩
  refine V.eSt (st' := [.int (bI (decide ((lN 0) ≤ x.toInt64 ∧ x.toInt64 ≤ (((nI (un τ 26 26)) - (nI 1)).toInt64)))), .ref mb]) rfl ?_
  refine V.ei (y := bI (rng x (un τ 26 26))) (congrArg bI (rng_ct x _ (by omega))) ?_
  refine r_if_eqB C (t := 22) dX12_order_15 (by decide) (fun c15 => ?_) (fun c15 => ?_)
  · skip
    refine r_iconst C (v := nI 1) dX12_order_22 (by decide) ?_
    refine V.ei (y := nI (cd1 (rng x (un τ 26 26)))) (congrArg nI (by simp only [c15] <;> rfl)) ?_
    exact jn23
  · skip
    refine r_iconst C (v := nI 0) dX12_order_18 (by decide) ?_
    refine r_goto C (t := 23) dX12_order_19 (by decide) ?_
    refine V.ei (y := nI (cd1 (rng x (un τ 26 26)))) (congrArg nI (by simp only [c15] <;> rfl)) ?_
    exact jn23
