set_option maxHeartbeats 4000000 in
set_option maxRecDepth 100000 in
theorem c_X12_bracket (l : Launch) (hfl : l.flags = flags0) (G : gW) (M : Mem) (mb : Nat) (τ : Mu) (hm : MOK (mK M) (mN M) (mR M) mb) (ht : TE (mI M) (mL M) mb τ) (hw : WF τ) (htb : TEb (mI M) (mL M) mb τ) (hlb : LTB M mb) (x y z t n : Int32) : CT l yX12_bracket cX12_bracket 10 (some .int) 2 0 0 47 G M [.ref mb, .int x, .int y, .int z, .int t, .int n] (fun v M' => PP mb M τ (cd3 (rng x 3 && rng z 24) (inB y (lN 0) (lN 1) && inB t (lN 1) (lN 1000000000) && inB n (lN 0) (lN 900)) (brB τ (brI x y z t n) t)) (sI (sI (sI τ 34 (4 * (brI x y z t n) + un τ 33 (brI x y z t n)) t) 35 (4 * (brI x y z t n) + un τ 33 (brI x y z t n)) n) 33 (brI x y z t n) (nI (un τ 33 (brI x y z t n) + 1))) (some (.int (nI (un τ 33 (brI x y z t n) + 1)))) v M') := by
  refine CT.of hfl rfl (Nat.le_of_ble_eq_true rfl) ?_
  intro pp ee ss mm ar bw mt cd C hgX hr hini
  have hnc := hw.nc.2
  have hsh := hw.sh.2
  have hnl := hw.nl.2
  have hne := hw.ne.2
  have hng := hw.ng.2
  have hop := hw.op.2
  have hnp := hw.np.2
  have ht0 := ht
  have hm0 := hm
  have htb0 := htb
  have hfo := fOut.rf [67, 33, 34, 35] mb M
  refine V.eLo (lo' := [(0, .ref mb), (1, .int x), (2, .int y), (3, .int z), (4, .int t), (5, .int n)]) rfl ?_
  have jn21 : V pp l ee ({ frames := 2, cells := 0, slots := 0, locals := 47 } : Room) ss mm ar bw mt cd G (MQ bw (Ke G (fun v M' => PP mb M τ (cd3 (rng x 3 && rng z 24) (inB y (lN 0) (lN 1) && inB t (lN 1) (lN 1000000000) && inB n (lN 0) (lN 900)) (brB τ (brI x y z t n) t)) (sI (sI (sI τ 34 (4 * (brI x y z t n) + un τ 33 (brI x y z t n)) t) 35 (4 * (brI x y z t n) + un τ 33 (brI x y z t n)) n) 33 (brI x y z t n) (nI (un τ 33 (brI x y z t n) + 1))) (some (.int (nI (un τ 33 (brI x y z t n) + 1)))) v M')) ar ss 0 0 (gA G)) 10 M 0 0 21 [(0, .ref mb), (1, .int x), (2, .int y), (3, .int z), (4, .int t), (5, .int n)] [.int (bI (rng x 3 && rng z 24))] := by
    skip
    refine r_istore C (lo' := [(6, .int (bI (rng x 3 && rng z 24))), (0, .ref mb), (1, .int x), (2, .int y), (3, .int z), (4, .int t), (5, .int n)]) dX12_bracket_21 (by decide) rfl ?_
    have jn67 : V pp l ee ({ frames := 2, cells := 0, slots := 0, locals := 47 } : Room) ss mm ar bw mt cd G (MQ bw (Ke G (fun v M' => PP mb M τ (cd3 (rng x 3 && rng z 24) (inB y (lN 0) (lN 1) && inB t (lN 1) (lN 1000000000) && inB n (lN 0) (lN 900)) (brB τ (brI x y z t n) t)) (sI (sI (sI τ 34 (4 * (brI x y z t n) + un τ 33 (brI x y z t n)) t) 35 (4 * (brI x y z t n) + un τ 33 (brI x y z t n)) n) 33 (brI x y z t n) (nI (un τ 33 (brI x y z t n) + 1))) (some (.int (nI (un τ 33 (brI x y z t n) + 1)))) v M')) ar ss 0 0 (gA G)) 10 M 0 0 67 [(6, .int (bI (rng x 3 && rng z 24))), (0, .ref mb), (1, .int x), (2, .int y), (3, .int z), (4, .int t), (5, .int n)] [.int (bI (inB y (lN 0) (lN 1) && inB t (lN 1) (lN 1000000000) && inB n (lN 0) (lN 900)))] := by
      skip
      refine r_istore C (lo' := [(7, .int (bI (inB y (lN 0) (lN 1) && inB t (lN 1) (lN 1000000000) && inB n (lN 0) (lN 900)))), (6, .int (bI (rng x 3 && rng z 24))), (0, .ref mb), (1, .int x), (2, .int y), (3, .int z), (4, .int t), (5, .int n)]) dX12_bracket_67 (by decide) rfl ?_
      have jn94 : V pp l ee ({ frames := 2, cells := 0, slots := 0, locals := 47 } : Room) ss mm ar bw mt cd G (MQ bw (Ke G (fun v M' => PP mb M τ (cd3 (rng x 3 && rng z 24) (inB y (lN 0) (lN 1) && inB t (lN 1) (lN 1000000000) && inB n (lN 0) (lN 900)) (brB τ (brI x y z t n) t)) (sI (sI (sI τ 34 (4 * (brI x y z t n) + un τ 33 (brI x y z t n)) t) 35 (4 * (brI x y z t n) + un τ 33 (brI x y z t n)) n) 33 (brI x y z t n) (nI (un τ 33 (brI x y z t n) + 1))) (some (.int (nI (un τ 33 (brI x y z t n) + 1)))) v M')) ar ss 0 0 (gA G)) 10 M 0 0 94 [(7, .int (bI (inB y (lN 0) (lN 1) && inB t (lN 1) (lN 1000000000) && inB n (lN 0) (lN 900)))), (6, .int (bI (rng x 3 && rng z 24))), (0, .ref mb), (1, .int x), (2, .int y), (3, .int z), (4, .int t), (5, .int n)] [.int (nI (brI x y z t n))] := by
        skip
        have hat : (brI x y z t n) < 144 := brA_lt (fun q => by
          obtain ⟨q1, q2⟩ := Bool.and_eq_true_iff.mp q
          exact ⟨(Bool.and_eq_true_iff.mp q1).1, (Bool.and_eq_true_iff.mp q1).2, (Bool.and_eq_true_iff.mp (Bool.and_eq_true_iff.mp q2).1).1⟩)
        refine r_istore C (lo' := [(8, .int (nI (brI x y z t n))), (7, .int (bI (inB y (lN 0) (lN 1) && inB t (lN 1) (lN 1000000000) && inB n (lN 0) (lN 900)))), (6, .int (bI (rng x 3 && rng z 24))), (0, .ref mb), (1, .int x), (2, .int y), (3, .int z), (4, .int t), (5, .int n)]) dX12_bracket_94 (by decide) rfl ?_
        have jn156 : V pp l ee ({ frames := 2, cells := 0, slots := 0, locals := 47 } : Room) ss mm ar bw mt cd G (MQ bw (Ke G (fun v M' => PP mb M τ (cd3 (rng x 3 && rng z 24) (inB y (lN 0) (lN 1) && inB t (lN 1) (lN 1000000000) && inB n (lN 0) (lN 900)) (brB τ (brI x y z t n) t)) (sI (sI (sI τ 34 (4 * (brI x y z t n) + un τ 33 (brI x y z t n)) t) 35 (4 * (brI x y z t n) + un τ 33 (brI x y z t n)) n) 33 (brI x y z t n) (nI (un τ 33 (brI x y z t n) + 1))) (some (.int (nI (un τ 33 (brI x y z t n) + 1)))) v M')) ar ss 0 0 (gA G)) 10 M 0 0 156 [(8, .int (nI (brI x y z t n))), (7, .int (bI (inB y (lN 0) (lN 1) && inB t (lN 1) (lN 1000000000) && inB n (lN 0) (lN 900)))), (6, .int (bI (rng x 3 && rng z 24))), (0, .ref mb), (1, .int x), (2, .int y), (3, .int z), (4, .int t), (5, .int n)] [.int (bI ((rng x 3 && rng z 24) && (inB y (lN 0) (lN 1) && inB t (lN 1) (lN 1000000000) && inB n (lN 0) (lN 900)) && !(brB τ (brI x y z t n) t)))] := by
          skip
          refine r_istore C (lo' := [(9, .int (bI ((rng x 3 && rng z 24) && (inB y (lN 0) (lN 1) && inB t (lN 1) (lN 1000000000) && inB n (lN 0) (lN 900)) && !(brB τ (brI x y z t n) t)))), (8, .int (nI (brI x y z t n))), (7, .int (bI (inB y (lN 0) (lN 1) && inB t (lN 1) (lN 1000000000) && inB n (lN 0) (lN 900)))), (6, .int (bI (rng x 3 && rng z 24))), (0, .ref mb), (1, .int x), (2, .int y), (3, .int z), (4, .int t), (5, .int n)]) dX12_bracket_156 (by decide) rfl ?_
          refine r_aload_n C 4 dX12_bracket_158 rfl rfl ?_
          have jn187 : V pp l ee ({ frames := 2, cells := 0, slots := 0, locals := 47 } : Room) ss mm ar bw mt cd G (MQ bw (Ke G (fun v M' => PP mb M τ (cd3 (rng x 3 && rng z 24) (inB y (lN 0) (lN 1) && inB t (lN 1) (lN 1000000000) && inB n (lN 0) (lN 900)) (brB τ (brI x y z t n) t)) (sI (sI (sI τ 34 (4 * (brI x y z t n) + un τ 33 (brI x y z t n)) t) 35 (4 * (brI x y z t n) + un τ 33 (brI x y z t n)) n) 33 (brI x y z t n) (nI (un τ 33 (brI x y z t n) + 1))) (some (.int (nI (un τ 33 (brI x y z t n) + 1)))) v M')) ar ss 0 0 (gA G)) 10 M 0 0 187 [(9, .int (bI ((rng x 3 && rng z 24) && (inB y (lN 0) (lN 1) && inB t (lN 1) (lN 1000000000) && inB n (lN 0) (lN 900)) && !(brB τ (brI x y z t n) t)))), (8, .int (nI (brI x y z t n))), (7, .int (bI (inB y (lN 0) (lN 1) && inB t (lN 1) (lN 1000000000) && inB n (lN 0) (lN 900)))), (6, .int (bI (rng x 3 && rng z 24))), (0, .ref mb), (1, .int x), (2, .int y), (3, .int z), (4, .int t), (5, .int n)] [.int (nI (cd3 (rng x 3 && rng z 24) (inB y (lN 0) (lN 1) && inB t (lN 1) (lN 1000000000) && inB n (lN 0) (lN 900)) (brB τ (brI x y z t n) t))), .ref mb] := by
            skip
            refine r_callV C hgX (ci := 14) ml_X12_227 im_X12_holds se_X12_holds rfl rfl hm.k (c_X12_holds l hfl G M mb hm (nI (cd3 (rng x 3 && rng z 24) (inB y (lN 0) (lN 1) && inB t (lN 1) (lN 1000000000) && inB n (lN 0) (lN 900)) (brB τ (brI x y z t n) t)))) rfl (Nat.le_of_ble_eq_true rfl) ⟨Nat.le_of_ble_eq_true rfl, Nat.le_of_ble_eq_true rfl⟩ ⟨Nat.le_of_ble_eq_true rfl, Nat.le_of_ble_eq_true rfl⟩ dX12_bracket_187 rfl ?_
            rintro _ _ ⟨rfl, rfl⟩
            refine V.eSt (st' := [.int (bI (decide (0 < nI (cd3 (rng x 3 && rng z 24) (inB y (lN 0) (lN 1) && inB t (lN 1) (lN 1000000000) && inB n (lN 0) (lN 900)) (brB τ (brI x y z t n) t)))))]) rfl ?_
            refine V.ei (y := bI (decide ((cd3 (rng x 3 && rng z 24) (inB y (lN 0) (lN 1) && inB t (lN 1) (lN 1000000000) && inB n (lN 0) (lN 900)) (brB τ (brI x y z t n) t)) ≠ 0))) (congrArg bI (hold_d (cd3_le _ _ _))) ?_
            have hfo := hfo.set0 67 (nI (cd3 (rng x 3 && rng z 24) (inB y (lN 0) (lN 1) && inB t (lN 1) (lN 1000000000) && inB n (lN 0) (lN 900)) (brB τ (brI x y z t n) t))) rfl
            have ht := ht.ws 67 (nI (cd3 (rng x 3 && rng z 24) (inB y (lN 0) (lN 1) && inB t (lN 1) (lN 1000000000) && inB n (lN 0) (lN 900)) (brB τ (brI x y z t n) t))) rfl rfl
            have htb := ((fOut.rf [67] mb _).set0 67 (nI (cd3 (rng x 3 && rng z 24) (inB y (lN 0) (lN 1) && inB t (lN 1) (lN 1000000000) && inB n (lN 0) (lN 900)) (brB τ (brI x y z t n) t))) rfl).tb rfl htb
            have h67 : mI (wI M mb 67 (nI (cd3 (rng x 3 && rng z 24) (inB y (lN 0) (lN 1) && inB t (lN 1) (lN 1000000000) && inB n (lN 0) (lN 900)) (brB τ (brI x y z t n) t)))) mb 67 = nI (cd3 (rng x 3 && rng z 24) (inB y (lN 0) (lN 1) && inB t (lN 1) (lN 1000000000) && inB n (lN 0) (lN 900)) (brB τ (brI x y z t n) t)) := up2_same _ _ _ _
            have hlb : LTB (wI M mb 67 (nI (cd3 (rng x 3 && rng z 24) (inB y (lN 0) (lN 1) && inB t (lN 1) (lN 1000000000) && inB n (lN 0) (lN 900)) (brB τ (brI x y z t n) t)))) mb := hlb.ws 67 _
            refine r_if_eqB C (t := 195) dX12_bracket_190 (by decide) (fun c190 => ?_) (fun c190 => ?_)
            · skip
              have c190d := of_decide_eq_false c190
              have hC : (cd3 (rng x 3 && rng z 24) (inB y (lN 0) (lN 1) && inB t (lN 1) (lN 1000000000) && inB n (lN 0) (lN 900)) (brB τ (brI x y z t n) t)) = 0 := by have := c190d; omega
              obtain ⟨h1, h2, h3⟩ := cd3_0 hC
              have h3d : un τ 33 (brI x y z t n) ≠ 4 := of_decide_eq_true (Bool.and_eq_true_iff.mp h3).1
              have hbn := (hw.bn (brI x y z t n) hat).2
              refine r_aload_n C 4 dX12_bracket_195 rfl rfl ?_
              refine r_getR C (b := (ma mb 34)) fl_X12_89 rfl hm.k (hm.r 34 rfl) dX12_bracket_196 ?_
              refine r_iconst C (v := nI 4) dX12_bracket_199 (by decide) ?_
              refine r_iload C 1 dX12_bracket_200 rfl ?_
              refine r_imulN C dX12_bracket_202 ?_
              refine r_aload_n C 4 dX12_bracket_203 rfl rfl ?_
              refine r_getR C (b := (ma mb 33)) fl_X12_86 rfl hm.k (hm.r 33 rfl) dX12_bracket_204 ?_
              refine r_iload C 1 dX12_bracket_207 rfl ?_
              refine r_ialoadN C (hm.i 33 20 rfl) (hm.n 33 144 rfl) (by omega) (by omega) dX12_bracket_209 ?_
              refine V.ei (y := nI (un τ 33 (brI x y z t n))) ((ht.i 33 rfl _).trans (hw.bn (brI x y z t n) (by omega)).1) ?_
              have hb0 := (hw.bn (brI x y z t n) (by omega)).2
              refine r_iaddN C dX12_bracket_210 ?_
              refine r_iload C 8 dX12_bracket_211 rfl ?_
              refine r_iastoreN C (hm.i 34 20 rfl) (hm.n 34 576 rfl) (by omega) (by omega) dX12_bracket_213 ?_
              have htb := ((fOut.rf [34] mb _).setI 34 (4 * (brI x y z t n) + (un τ 33 (brI x y z t n))) t rfl).tb rfl htb
              have hlb : LTB (wI (wI M mb 67 (nI (cd3 (rng x 3 && rng z 24) (inB y (lN 0) (lN 1) && inB t (lN 1) (lN 1000000000) && inB n (lN 0) (lN 900)) (brB τ (brI x y z t n) t)))) (ma mb 34) (4 * (brI x y z t n) + (un τ 33 (brI x y z t n))) t) mb := hlb.wi 34 _ _ rfl
              have hfo := hfo.setI 34 (4 * (brI x y z t n) + (un τ 33 (brI x y z t n))) t rfl
              have h67 : mI (wI (wI M mb 67 (nI (cd3 (rng x 3 && rng z 24) (inB y (lN 0) (lN 1) && inB t (lN 1) (lN 1000000000) && inB n (lN 0) (lN 900)) (brB τ (brI x y z t n) t)))) (ma mb 34) (4 * (brI x y z t n) + (un τ 33 (brI x y z t n))) t) mb 67 = _ := (up2_a _ _ (ma_0 rfl).symm).trans h67
              have ht := ht.ui 34 (4 * (brI x y z t n) + (un τ 33 (brI x y z t n))) t rfl
              refine r_aload_n C 4 dX12_bracket_214 rfl rfl ?_
              refine r_getR C (b := (ma mb 35)) fl_X12_92 rfl hm.k (hm.r 35 rfl) dX12_bracket_215 ?_
              refine r_iconst C (v := nI 4) dX12_bracket_218 (by decide) ?_
              refine r_iload C 1 dX12_bracket_219 rfl ?_
              refine r_imulN C dX12_bracket_221 ?_
              refine r_aload_n C 4 dX12_bracket_222 rfl rfl ?_
              refine r_getR C (b := (ma mb 33)) fl_X12_86 rfl hm.k (hm.r 33 rfl) dX12_bracket_223 ?_
              refine r_iload C 1 dX12_bracket_226 rfl ?_
              refine r_ialoadN C (hm.i 33 20 rfl) (hm.n 33 144 rfl) (by omega) (by omega) dX12_bracket_228 ?_
              refine V.ei (y := nI (un τ 33 (brI x y z t n))) ((ht.i 33 rfl _).trans (hw.bn (brI x y z t n) (by omega)).1) ?_
              have hb1 := (hw.bn (brI x y z t n) (by omega)).2
              refine r_iaddN C dX12_bracket_229 ?_
              refine r_iload C 9 dX12_bracket_230 rfl ?_
              refine r_iastoreN C (hm.i 35 20 rfl) (hm.n 35 576 rfl) (by omega) (by omega) dX12_bracket_232 ?_
              have htb := ((fOut.rf [35] mb _).setI 35 (4 * (brI x y z t n) + (un τ 33 (brI x y z t n))) n rfl).tb rfl htb
              have hlb : LTB (wI (wI (wI M mb 67 (nI (cd3 (rng x 3 && rng z 24) (inB y (lN 0) (lN 1) && inB t (lN 1) (lN 1000000000) && inB n (lN 0) (lN 900)) (brB τ (brI x y z t n) t)))) (ma mb 34) (4 * (brI x y z t n) + (un τ 33 (brI x y z t n))) t) (ma mb 35) (4 * (brI x y z t n) + (un τ 33 (brI x y z t n))) n) mb := hlb.wi 35 _ _ rfl
              have hfo := hfo.setI 35 (4 * (brI x y z t n) + (un τ 33 (brI x y z t n))) n rfl
              have h67 : mI (wI (wI (wI M mb 67 (nI (cd3 (rng x 3 && rng z 24) (inB y (lN 0) (lN 1) && inB t (lN 1) (lN 1000000000) && inB n (lN 0) (lN 900)) (brB τ (brI x y z t n) t)))) (ma mb 34) (4 * (brI x y z t n) + (un τ 33 (brI x y z t n))) t) (ma mb 35) (4 * (brI x y z t n) + (un τ 33 (brI x y z t n))) n) mb 67 = _ := (up2_a _ _ (ma_0 rfl).symm).trans h67
              have ht := ht.ui 35 (4 * (brI x y z t n) + (un τ 33 (brI x y z t n))) n rfl
              refine r_aload_n C 4 dX12_bracket_233 rfl rfl ?_
              refine r_getR C (b := (ma mb 33)) fl_X12_86 rfl hm.k (hm.r 33 rfl) dX12_bracket_234 ?_
              refine r_iload C 1 dX12_bracket_237 rfl ?_
              refine r_dup2 C dX12_bracket_239 rfl rfl ?_
              refine r_ialoadN C (hm.i 33 20 rfl) (hm.n 33 144 rfl) (by omega) (by omega) dX12_bracket_240 ?_
              refine V.ei (y := nI (un τ 33 (brI x y z t n))) ((ht.i 33 rfl _).trans (hw.bn (brI x y z t n) (by omega)).1) ?_
              have hb2 := (hw.bn (brI x y z t n) (by omega)).2
              refine r_iconst C (v := nI 1) dX12_bracket_241 (by decide) ?_
              refine r_iaddN C dX12_bracket_242 ?_
              refine r_iastoreN C (hm.i 33 20 rfl) (hm.n 33 144 rfl) (by omega) (by omega) dX12_bracket_243 ?_
              have htb := ((fOut.rf [33] mb _).setI 33 (brI x y z t n) (nI (un τ 33 (brI x y z t n) + 1)) rfl).tb rfl htb
              have hlb : LTB (wI (wI (wI (wI M mb 67 (nI (cd3 (rng x 3 && rng z 24) (inB y (lN 0) (lN 1) && inB t (lN 1) (lN 1000000000) && inB n (lN 0) (lN 900)) (brB τ (brI x y z t n) t)))) (ma mb 34) (4 * (brI x y z t n) + (un τ 33 (brI x y z t n))) t) (ma mb 35) (4 * (brI x y z t n) + (un τ 33 (brI x y z t n))) n) (ma mb 33) (brI x y z t n) (nI (un τ 33 (brI x y z t n) + 1))) mb := hlb.wi 33 _ _ rfl
              have hfo := hfo.setI 33 (brI x y z t n) (nI (un τ 33 (brI x y z t n) + 1)) rfl
              have h67 : mI (wI (wI (wI (wI M mb 67 (nI (cd3 (rng x 3 && rng z 24) (inB y (lN 0) (lN 1) && inB t (lN 1) (lN 1000000000) && inB n (lN 0) (lN 900)) (brB τ (brI x y z t n) t)))) (ma mb 34) (4 * (brI x y z t n) + (un τ 33 (brI x y z t n))) t) (ma mb 35) (4 * (brI x y z t n) + (un τ 33 (brI x y z t n))) n) (ma mb 33) (brI x y z t n) (nI (un τ 33 (brI x y z t n) + 1))) mb 67 = _ := (up2_a _ _ (ma_0 rfl).symm).trans h67
              have ht := ht.ui 33 (brI x y z t n) (nI (un τ 33 (brI x y z t n) + 1)) rfl
              refine r_aload_n C 4 dX12_bracket_244 rfl rfl ?_
              refine r_getR C (b := (ma mb 33)) fl_X12_86 rfl hm.k (hm.r 33 rfl) dX12_bracket_245 ?_
              refine r_iload C 1 dX12_bracket_248 rfl ?_
              refine r_ialoadN C (hm.i 33 20 rfl) (hm.n 33 144 rfl) (by omega) (by omega) dX12_bracket_250 ?_
              refine V.ei (y := nI (un τ 33 (brI x y z t n) + 1)) ((ht.i 33 rfl _).trans (sI_s (τ := sI (sI τ 34 (4 * (brI x y z t n) + un τ 33 (brI x y z t n)) t) 35 (4 * (brI x y z t n) + un τ 33 (brI x y z t n)) n) (k := 33) (x := (brI x y z t n)) (v := nI (un τ 33 (brI x y z t n) + 1)))) ?_
              exact r_iret C hr (⟨h67, hfo.mo, hlb, fun q => absurd hC q, fun _ => ⟨rfl, ht, htb.cg rfl rfl (fun _ => ⟨rfl, rfl⟩) (fun _ => ⟨rfl, rfl⟩) (fun _ => ⟨rfl, rfl⟩) (fun _ => ⟨rfl, rfl⟩) (fun _ => ⟨rfl, rfl⟩) (fun _ => ⟨rfl, rfl⟩) (fun _ => ⟨rfl, rfl⟩) ⟩, by first | exact KD.i | exact KD.l | exact KD.n⟩) (by first | exact Nat.zero_le _ | decide) (by first | exact Nat.zero_le _ | decide) dX12_bracket_251
            · skip
              have c190d := of_decide_eq_true c190
              have hC : (cd3 (rng x 3 && rng z 24) (inB y (lN 0) (lN 1) && inB t (lN 1) (lN 1000000000) && inB n (lN 0) (lN 900)) (brB τ (brI x y z t n) t)) ≠ 0 := c190d
              refine r_iconst C (v := (-1)) dX12_bracket_193 (by decide) ?_
              exact r_iret C hr (⟨h67, hfo.mo, hlb, fun _ => ⟨ht, htb⟩, fun q => absurd q hC, by first | exact KD.i | exact KD.l | exact KD.n⟩) (by first | exact Nat.zero_le _ | decide) (by first | exact Nat.zero_le _ | decide) dX12_bracket_194
          refine r_iload C 3 dX12_bracket_159 rfl ?_
          refine r_if_neB C (t := 168) dX12_bracket_161 (by decide) (fun c161 => ?_) (fun c161 => ?_)
          · skip
            refine r_iload C 2 dX12_bracket_168 rfl ?_
            refine r_if_neB C (t := 177) dX12_bracket_170 (by decide) (fun c170 => ?_) (fun c170 => ?_)
            · skip
              refine r_iload C 0 dX12_bracket_177 rfl ?_
              refine r_if_eqB C (t := 186) dX12_bracket_179 (by decide) (fun c179 => ?_) (fun c179 => ?_)
              · skip
                have b9 : brB τ (brI x y z t n) t = true := by have q := c179; rw [c161, c170] at q; simpa using q
                refine r_iconst C (v := nI 0) dX12_bracket_186 (by decide) ?_
                refine V.ei (y := nI (cd3 (rng x 3 && rng z 24) (inB y (lN 0) (lN 1) && inB t (lN 1) (lN 1000000000) && inB n (lN 0) (lN 900)) (brB τ (brI x y z t n) t))) (congrArg nI (by simp only [c161, c170, b9] <;> rfl)) ?_
                exact jn187
              · skip
                have b9 : brB τ (brI x y z t n) t = false := by have q := c179; rw [c161, c170] at q; simpa using q
                refine r_iconst C (v := nI 3) dX12_bracket_182 (by decide) ?_
                refine r_goto C (t := 187) dX12_bracket_183 (by decide) ?_
                refine V.ei (y := nI (cd3 (rng x 3 && rng z 24) (inB y (lN 0) (lN 1) && inB t (lN 1) (lN 1000000000) && inB n (lN 0) (lN 900)) (brB τ (brI x y z t n) t))) (congrArg nI (by simp only [c161, c170, b9] <;> rfl)) ?_
                exact jn187
            · skip
              refine r_iconst C (v := nI 2) dX12_bracket_173 (by decide) ?_
              refine r_goto C (t := 187) dX12_bracket_174 (by decide) ?_
              refine V.ei (y := nI (cd3 (rng x 3 && rng z 24) (inB y (lN 0) (lN 1) && inB t (lN 1) (lN 1000000000) && inB n (lN 0) (lN 900)) (brB τ (brI x y z t n) t))) (congrArg nI (by simp only [c161, c170] <;> rfl)) ?_
              exact jn187
          · skip
            refine r_iconst C (v := nI 1) dX12_bracket_164 (by decide) ?_
            refine r_goto C (t := 187) dX12_bracket_165 (by decide) ?_
            refine V.ei (y := nI (cd3 (rng x 3 && rng z 24) (inB y (lN 0) (lN 1) && inB t (lN 1) (lN 1000000000) && inB n (lN 0) (lN 900)) (brB τ (brI x y z t n) t))) (congrArg nI (by simp only [c161] <;> rfl)) ?_
            exact jn187
        refine r_iload C 2 dX12_bracket_96 rfl ?_
        refine r_if_eqB C (t := 155) dX12_bracket_98 (by decide) (fun c98 => ?_) (fun c98 => ?_)
        · skip
          refine r_iconst C (v := nI 0) dX12_bracket_155 (by decide) ?_
          refine V.eSt (st' := [.int (bI false)]) rfl ?_
          refine V.ei (y := bI ((rng x 3 && rng z 24) && (inB y (lN 0) (lN 1) && inB t (lN 1) (lN 1000000000) && inB n (lN 0) (lN 900)) && !(brB τ (brI x y z t n) t))) (congrArg bI (by unfold brB; simp only [c98] <;> rfl)) ?_
          exact jn156
        · skip
          refine r_iload C 1 dX12_bracket_101 rfl ?_
          refine r_if_eqB C (t := 155) dX12_bracket_103 (by decide) (fun c103 => ?_) (fun c103 => ?_)
          · skip
            refine r_iconst C (v := nI 0) dX12_bracket_155 (by decide) ?_
            refine V.eSt (st' := [.int (bI false)]) rfl ?_
            refine V.ei (y := bI ((rng x 3 && rng z 24) && (inB y (lN 0) (lN 1) && inB t (lN 1) (lN 1000000000) && inB n (lN 0) (lN 900)) && !(brB τ (brI x y z t n) t))) (congrArg bI (by unfold brB; simp only [c98, c103] <;> rfl)) ?_
            exact jn156
          · skip
            refine r_aload_n C 3 dX12_bracket_106 rfl rfl ?_
            refine r_getR C (b := (ma mb 33)) fl_X12_86 rfl hm.k (hm.r 33 rfl) dX12_bracket_107 ?_
            refine r_iload C 0 dX12_bracket_110 rfl ?_
            refine r_ialoadN C (hm.i 33 20 rfl) (hm.n 33 144 rfl) (by omega) (by omega) dX12_bracket_112 ?_
            refine V.ei (y := nI (un τ 33 (brI x y z t n))) ((ht.i 33 rfl _).trans (hw.bn (brI x y z t n) (by omega)).1) ?_
            have hb4 := (hw.bn (brI x y z t n) (by omega)).2
            refine r_iconst C (v := nI 4) dX12_bracket_113 (by decide) ?_
            refine r_icmp_eqN C (t := 151) (by omega) (by omega) dX12_bracket_114 (by decide) (fun c114 => ?_) (fun c114 => ?_)
            · skip
              refine r_iconst C (v := nI 1) dX12_bracket_151 (by decide) ?_
              refine r_goto C (t := 156) dX12_bracket_152 (by decide) ?_
              refine V.eSt (st' := [.int (bI true)]) rfl ?_
              refine V.ei (y := bI ((rng x 3 && rng z 24) && (inB y (lN 0) (lN 1) && inB t (lN 1) (lN 1000000000) && inB n (lN 0) (lN 900)) && !(brB τ (brI x y z t n) t))) (congrArg bI (by unfold brB; simp only [c98, c103, show decide (un τ 33 (brI x y z t n) ≠ 4) = false from decide_eq_false (fun q => q c114)] <;> rfl)) ?_
              exact jn156
            · skip
              refine r_aload_n C 3 dX12_bracket_117 rfl rfl ?_
              refine r_getR C (b := (ma mb 33)) fl_X12_86 rfl hm.k (hm.r 33 rfl) dX12_bracket_118 ?_
              refine r_iload C 0 dX12_bracket_121 rfl ?_
              refine r_ialoadN C (hm.i 33 20 rfl) (hm.n 33 144 rfl) (by omega) (by omega) dX12_bracket_123 ?_
              refine V.ei (y := nI (un τ 33 (brI x y z t n))) ((ht.i 33 rfl _).trans (hw.bn (brI x y z t n) (by omega)).1) ?_
              have hb5 := (hw.bn (brI x y z t n) (by omega)).2
              refine r_if_leN C (t := 155) (by omega) dX12_bracket_124 (by decide) (fun c124 => ?_) (fun c124 => ?_)
              · skip
                refine r_iconst C (v := nI 0) dX12_bracket_155 (by decide) ?_
                refine V.eSt (st' := [.int (bI false)]) rfl ?_
                refine V.ei (y := bI ((rng x 3 && rng z 24) && (inB y (lN 0) (lN 1) && inB t (lN 1) (lN 1000000000) && inB n (lN 0) (lN 900)) && !(brB τ (brI x y z t n) t))) (congrArg bI (by unfold brB; simp only [c98, c103, show decide (un τ 33 (brI x y z t n) ≠ 4) = true from decide_eq_true c114, show decide (un τ 33 (brI x y z t n) = 0) = true from decide_eq_true (by omega)] <;> rfl)) ?_
                exact jn156
              · skip
                refine r_iload C 7 dX12_bracket_127 rfl ?_
                refine r_aload_n C 3 dX12_bracket_129 rfl rfl ?_
                refine r_getR C (b := (ma mb 34)) fl_X12_89 rfl hm.k (hm.r 34 rfl) dX12_bracket_130 ?_
                refine r_iconst C (v := nI 4) dX12_bracket_133 (by decide) ?_
                refine r_iload C 0 dX12_bracket_134 rfl ?_
                refine r_imulN C dX12_bracket_136 ?_
                refine r_aload_n C 3 dX12_bracket_137 rfl rfl ?_
                refine r_getR C (b := (ma mb 33)) fl_X12_86 rfl hm.k (hm.r 33 rfl) dX12_bracket_138 ?_
                refine r_iload C 0 dX12_bracket_141 rfl ?_
                refine r_ialoadN C (hm.i 33 20 rfl) (hm.n 33 144 rfl) (by omega) (by omega) dX12_bracket_143 ?_
                refine V.ei (y := nI (un τ 33 (brI x y z t n))) ((ht.i 33 rfl _).trans (hw.bn (brI x y z t n) (by omega)).1) ?_
                have hb6 := (hw.bn (brI x y z t n) (by omega)).2
                refine r_iaddN C dX12_bracket_144 ?_
                refine r_iconst C (v := nI 1) dX12_bracket_145 (by decide) ?_
                refine r_isubN C (by omega) dX12_bracket_146 ?_
                refine r_ialoadN C (hm.i 34 20 rfl) (hm.n 34 576 rfl) (by omega) (by omega) dX12_bracket_147 ?_
                refine V.ei (y := τ.1 34 ((4 * (brI x y z t n) + (un τ 33 (brI x y z t n))) - 1)) (ht.i 34 rfl _) ?_
                refine r_icmp_gt C (t := 155) dX12_bracket_148 (by decide) (fun c148 => ?_) (fun c148 => ?_)
                · skip
                  refine r_iconst C (v := nI 0) dX12_bracket_155 (by decide) ?_
                  refine V.eSt (st' := [.int (bI false)]) rfl ?_
                  refine V.ei (y := bI ((rng x 3 && rng z 24) && (inB y (lN 0) (lN 1) && inB t (lN 1) (lN 1000000000) && inB n (lN 0) (lN 900)) && !(brB τ (brI x y z t n) t))) (congrArg bI (by unfold brB; simp only [c98, c103, show decide (un τ 33 (brI x y z t n) ≠ 4) = true from decide_eq_true c114, show decide (un τ 33 (brI x y z t n) = 0) = false from decide_eq_false (by omega), decide_eq_true c148] <;> rfl)) ?_
                  exact jn156
                · skip
                  refine r_iconst C (v := nI 1) dX12_bracket_151 (by decide) ?_
                  refine r_goto C (t := 156) dX12_bracket_152 (by decide) ?_
                  refine V.eSt (st' := [.int (bI true)]) rfl ?_
                  refine V.ei (y := bI ((rng x 3 && rng z 24) && (inB y (lN 0) (lN 1) && inB t (lN 1) (lN 1000000000) && inB n (lN 0) (lN 900)) && !(brB τ (brI x y z t n) t))) (congrArg bI (by unfold brB; simp only [c98, c103, show decide (un τ 33 (brI x y z t n) ≠ 4) = true from decide_eq_true c114, show decide (un τ 33 (brI x y z t n) = 0) = false from decide_eq_false (by omega), decide_eq_false c148] <;> rfl)) ?_
                  exact jn156
      refine r_iload C 1 dX12_bracket_69 rfl ?_
      refine r_if_eqB C (t := 93) dX12_bracket_71 (by decide) (fun c71 => ?_) (fun c71 => ?_)
      · skip
        refine r_iconst C (v := nI 0) dX12_bracket_93 (by decide) ?_
        refine V.ei (y := nI (brI x y z t n)) (congrArg nI (by simp only [brI, brA, c71] <;> rfl)) ?_
        exact jn94
      · skip
        refine r_iload C 0 dX12_bracket_74 rfl ?_
        refine r_if_eqB C (t := 93) dX12_bracket_76 (by decide) (fun c76 => ?_) (fun c76 => ?_)
        · skip
          refine r_iconst C (v := nI 0) dX12_bracket_93 (by decide) ?_
          refine V.ei (y := nI (brI x y z t n)) (congrArg nI (by simp only [brI, brA, c71, c76] <;> rfl)) ?_
          exact jn94
        · skip
          obtain ⟨hx, hz⟩ := Bool.and_eq_true_iff.mp c71
          obtain ⟨c, hc, e_x⟩ := rng_t hx
          obtain ⟨d, hd, e_z⟩ := rng_t hz
          obtain ⟨q, hq0, hq1, e_y⟩ := inB_N (by decide) (by decide) (Bool.and_eq_true_iff.mp (Bool.and_eq_true_iff.mp c76).1).1
          have hcx : x.toNatClampNeg = c := by rw [e_x, nI_clamp (by omega)]
          have hcy : y.toNatClampNeg = q := by rw [e_y, nI_clamp (by omega)]
          have hcz : z.toNatClampNeg = d := by rw [e_z, nI_clamp (by omega)]
          refine r_bipush C (v := nI 48) dX12_bracket_79 (by decide) ?_
          refine r_iload_n C 3 dX12_bracket_81 rfl rfl ?_
          refine V.ei (y := nI c) e_x ?_
          refine r_imulN C dX12_bracket_82 ?_
          refine r_bipush C (v := nI 24) dX12_bracket_83 (by decide) ?_
          refine r_iload_n C 4 dX12_bracket_85 rfl rfl ?_
          refine V.ei (y := nI q) e_y ?_
          refine r_imulN C dX12_bracket_86 ?_
          refine r_iaddN C dX12_bracket_87 ?_
          refine r_iload_n C 5 dX12_bracket_88 rfl rfl ?_
          refine V.ei (y := nI d) e_z ?_
          refine r_iaddN C dX12_bracket_89 ?_
          refine r_goto C (t := 94) dX12_bracket_90 (by decide) ?_
          refine V.ei (y := nI (brI x y z t n)) (congrArg nI (by simp only [brI, brA, c71, c76, hcx, hcy, hcz] <;> rfl)) ?_
          exact jn94
    refine r_aload_n C 1 dX12_bracket_23 rfl rfl ?_
    refine r_iload_n C 3 dX12_bracket_24 rfl rfl ?_
    refine r_i2l C dX12_bracket_25 ?_
    refine r_lconst C (v := lN 0) dX12_bracket_26 (by decide) ?_
    refine r_lconst C (v := lN 1) dX12_bracket_27 (by decide) ?_
    refine r_callV C hgX (ci := 14) ml_X12_191 im_X12_in se_X12_in rfl rfl hm.k (c_X12_in l hfl G M mb y.toInt64 (lN 0) (lN 1)) rfl (Nat.le_of_ble_eq_true rfl) ⟨Nat.le_of_ble_eq_true rfl, Nat.le_of_ble_eq_true rfl⟩ ⟨Nat.le_of_ble_eq_true rfl, Nat.le_of_ble_eq_true rfl⟩ dX12_bracket_28 rfl ?_
    rintro _ _ ⟨rfl, rfl⟩
    refine V.eSt (st' := [.int (bI (decide ((lN 0) ≤ y.toInt64 ∧ y.toInt64 ≤ (lN 1))))]) rfl ?_
    refine V.ei (y := bI (inB y (lN 0) (lN 1))) rfl ?_
    refine r_if_eqB C (t := 66) dX12_bracket_31 (by decide) (fun c31 => ?_) (fun c31 => ?_)
    · skip
      refine r_iconst C (v := nI 0) dX12_bracket_66 (by decide) ?_
      refine V.eSt (st' := [.int (bI false)]) rfl ?_
      refine V.ei (y := bI (inB y (lN 0) (lN 1) && inB t (lN 1) (lN 1000000000) && inB n (lN 0) (lN 900))) (congrArg bI (by simp only [c31] <;> rfl)) ?_
      exact jn67
    · skip
      refine r_aload_n C 1 dX12_bracket_34 rfl rfl ?_
      refine r_iload C 5 dX12_bracket_35 rfl ?_
      refine r_i2l C dX12_bracket_37 ?_
      refine r_lconst C (v := lN 1) dX12_bracket_38 (by decide) ?_
      refine r_ldc2 C (v := 1000000000) kl_X12_345 dX12_bracket_39 ?_
      refine V.el (y := lN 1000000000) (by decide) ?_
      refine r_callV C hgX (ci := 14) ml_X12_191 im_X12_in se_X12_in rfl rfl hm.k (c_X12_in l hfl G M mb t.toInt64 (lN 1) (lN 1000000000)) rfl (Nat.le_of_ble_eq_true rfl) ⟨Nat.le_of_ble_eq_true rfl, Nat.le_of_ble_eq_true rfl⟩ ⟨Nat.le_of_ble_eq_true rfl, Nat.le_of_ble_eq_true rfl⟩ dX12_bracket_42 rfl ?_
      rintro _ _ ⟨rfl, rfl⟩
      refine V.eSt (st' := [.int (bI (decide ((lN 1) ≤ t.toInt64 ∧ t.toInt64 ≤ (lN 1000000000))))]) rfl ?_
      refine V.ei (y := bI (inB t (lN 1) (lN 1000000000))) rfl ?_
      refine r_if_eqB C (t := 66) dX12_bracket_45 (by decide) (fun c45 => ?_) (fun c45 => ?_)
      · skip
        refine r_iconst C (v := nI 0) dX12_bracket_66 (by decide) ?_
        refine V.eSt (st' := [.int (bI false)]) rfl ?_
        refine V.ei (y := bI (inB y (lN 0) (lN 1) && inB t (lN 1) (lN 1000000000) && inB n (lN 0) (lN 900))) (congrArg bI (by simp only [c31, c45] <;> rfl)) ?_
        exact jn67
      · skip
        refine r_aload_n C 1 dX12_bracket_48 rfl rfl ?_
        refine r_iload C 6 dX12_bracket_49 rfl ?_
        refine r_i2l C dX12_bracket_51 ?_
        refine r_lconst C (v := lN 0) dX12_bracket_52 (by decide) ?_
        refine r_ldc2 C (v := 900) kl_X12_347 dX12_bracket_53 ?_
        refine V.el (y := lN 900) (by decide) ?_
        refine r_callV C hgX (ci := 14) ml_X12_191 im_X12_in se_X12_in rfl rfl hm.k (c_X12_in l hfl G M mb n.toInt64 (lN 0) (lN 900)) rfl (Nat.le_of_ble_eq_true rfl) ⟨Nat.le_of_ble_eq_true rfl, Nat.le_of_ble_eq_true rfl⟩ ⟨Nat.le_of_ble_eq_true rfl, Nat.le_of_ble_eq_true rfl⟩ dX12_bracket_56 rfl ?_
        rintro _ _ ⟨rfl, rfl⟩
        refine V.eSt (st' := [.int (bI (decide ((lN 0) ≤ n.toInt64 ∧ n.toInt64 ≤ (lN 900))))]) rfl ?_
        refine V.ei (y := bI (inB n (lN 0) (lN 900))) rfl ?_
        refine r_if_eqB C (t := 66) dX12_bracket_59 (by decide) (fun c59 => ?_) (fun c59 => ?_)
        · skip
          refine r_iconst C (v := nI 0) dX12_bracket_66 (by decide) ?_
          refine V.eSt (st' := [.int (bI false)]) rfl ?_
          refine V.ei (y := bI (inB y (lN 0) (lN 1) && inB t (lN 1) (lN 1000000000) && inB n (lN 0) (lN 900))) (congrArg bI (by simp only [c31, c45, c59] <;> rfl)) ?_
          exact jn67
        · skip
          refine r_iconst C (v := nI 1) dX12_bracket_62 (by decide) ?_
          refine r_goto C (t := 67) dX12_bracket_63 (by decide) ?_
          refine V.eSt (st' := [.int (bI true)]) rfl ?_
          refine V.ei (y := bI (inB y (lN 0) (lN 1) && inB t (lN 1) (lN 1000000000) && inB n (lN 0) (lN 900))) (congrArg bI (by simp only [c31, c45, c59] <;> rfl)) ?_
          exact jn67
  refine r_aload_n C 0 dX12_bracket_0 rfl rfl ?_
  refine r_iload_n C 1 dX12_bracket_1 rfl rfl ?_
  refine r_callV C hgX (ci := 14) ml_X12_215 im_X12_isPlace se_X12_isPlace rfl rfl hm.k (c_X12_isPlace l hfl G M mb hm x) rfl (Nat.le_of_ble_eq_true rfl) ⟨Nat.le_of_ble_eq_true rfl, Nat.le_of_ble_eq_true rfl⟩ ⟨Nat.le_of_ble_eq_true rfl, Nat.le_of_ble_eq_true rfl⟩ dX12_bracket_2 rfl ?_
  rintro _ _ ⟨rfl, rfl⟩
  refine V.eSt (st' := [.int (bI (rng x 3))]) rfl ?_
  refine r_if_eqB C (t := 20) dX12_bracket_5 (by decide) (fun c5 => ?_) (fun c5 => ?_)
  · skip
    refine r_iconst C (v := nI 0) dX12_bracket_20 (by decide) ?_
    refine V.eSt (st' := [.int (bI false)]) rfl ?_
    refine V.ei (y := bI (rng x 3 && rng z 24)) (congrArg bI (by simp only [c5] <;> rfl)) ?_
    exact jn21
  · skip
    refine r_aload_n C 0 dX12_bracket_8 rfl rfl ?_
    refine r_iload_n C 3 dX12_bracket_9 rfl rfl ?_
    refine r_callV C hgX (ci := 14) ml_X12_272 im_X12_isMonth se_X12_isMonth rfl rfl hm.k (c_X12_isMonth l hfl G M mb hm z) rfl (Nat.le_of_ble_eq_true rfl) ⟨Nat.le_of_ble_eq_true rfl, Nat.le_of_ble_eq_true rfl⟩ ⟨Nat.le_of_ble_eq_true rfl, Nat.le_of_ble_eq_true rfl⟩ dX12_bracket_10 rfl ?_
    rintro _ _ ⟨rfl, rfl⟩
    refine V.eSt (st' := [.int (bI (rng z 24))]) rfl ?_
    refine r_if_eqB C (t := 20) dX12_bracket_13 (by decide) (fun c13 => ?_) (fun c13 => ?_)
    · skip
      refine r_iconst C (v := nI 0) dX12_bracket_20 (by decide) ?_
      refine V.eSt (st' := [.int (bI false)]) rfl ?_
      refine V.ei (y := bI (rng x 3 && rng z 24)) (congrArg bI (by simp only [c5, c13] <;> rfl)) ?_
      exact jn21
    · skip
      refine r_iconst C (v := nI 1) dX12_bracket_16 (by decide) ?_
      refine r_goto C (t := 21) dX12_bracket_17 (by decide) ?_
      refine V.eSt (st' := [.int (bI true)]) rfl ?_
      refine V.ei (y := bI (rng x 3 && rng z 24)) (congrArg bI (by simp only [c5, c13] <;> rfl)) ?_
      exact jn21
set_option maxHeartbeats 4000000 in
set_option maxRecDepth 100000 in
theorem c_X12_word (l : Launch) (hfl : l.flags = flags0) (G : gW) (M : Mem) (mb : Nat) (τ : Mu) (hm : MOK (mK M) (mN M) (mR M) mb) (ht : TE (mI M) (mL M) mb τ) (hw : WF τ) (htb : TEb (mI M) (mL M) mb τ) (hlb : LTB M mb) (x y : Int32) : CT l yX12_word cX12_word 4 (some .int) 1 0 0 26 G M [.ref mb, .int x, .int y] (fun v M' => PP mb M τ (cd2 (inB x (lN 0) (lN 9) && (decide (x ≠ nI 2) || inB y (lN 0) (lN 5)) && (decide (x ≠ nI 3) || inB y (-1000000) (lN 1000000))) (wdB τ x)) (sI (sI (sI τ 22 (60 + un τ 24 6) x) 23 (60 + un τ 24 6) y) 24 6 (nI (un τ 24 6 + 1))) (some (.int (nI (un τ 24 6 + 1)))) v M') := by
  refine CT.of hfl rfl (Nat.le_of_ble_eq_true rfl) ?_
  intro pp ee ss mm ar bw mt cd C hgX hr hini
  have hnc := hw.nc.2
  have hsh := hw.sh.2
  have hnl := hw.nl.2
  have hne := hw.ne.2
  have hng := hw.ng.2
  have hop := hw.op.2
  have hnp := hw.np.2
  have ht0 := ht
  have hm0 := hm
  have htb0 := htb
  have hfo := fOut.rf [67, 22, 23, 24] mb M
  refine V.eLo (lo' := [(0, .ref mb), (1, .int x), (2, .int y)]) rfl ?_
  have jn56 : V pp l ee ({ frames := 1, cells := 0, slots := 0, locals := 26 } : Room) ss mm ar bw mt cd G (MQ bw (Ke G (fun v M' => PP mb M τ (cd2 (inB x (lN 0) (lN 9) && (decide (x ≠ nI 2) || inB y (lN 0) (lN 5)) && (decide (x ≠ nI 3) || inB y (-1000000) (lN 1000000))) (wdB τ x)) (sI (sI (sI τ 22 (60 + un τ 24 6) x) 23 (60 + un τ 24 6) y) 24 6 (nI (un τ 24 6 + 1))) (some (.int (nI (un τ 24 6 + 1)))) v M')) ar ss 0 0 (gA G)) 4 M 0 0 56 [(0, .ref mb), (1, .int x), (2, .int y)] [.int (bI (inB x (lN 0) (lN 9) && (decide (x ≠ nI 2) || inB y (lN 0) (lN 5)) && (decide (x ≠ nI 3) || inB y (-1000000) (lN 1000000))))] := by
    skip
    refine r_istore_n C (lo' := [(3, .int (bI (inB x (lN 0) (lN 9) && (decide (x ≠ nI 2) || inB y (lN 0) (lN 5)) && (decide (x ≠ nI 3) || inB y (-1000000) (lN 1000000))))), (0, .ref mb), (1, .int x), (2, .int y)]) dX12_word_56 rfl (by decide) rfl ?_
    refine r_aload_n C 1 dX12_word_57 rfl rfl ?_
    have jn98 : V pp l ee ({ frames := 1, cells := 0, slots := 0, locals := 26 } : Room) ss mm ar bw mt cd G (MQ bw (Ke G (fun v M' => PP mb M τ (cd2 (inB x (lN 0) (lN 9) && (decide (x ≠ nI 2) || inB y (lN 0) (lN 5)) && (decide (x ≠ nI 3) || inB y (-1000000) (lN 1000000))) (wdB τ x)) (sI (sI (sI τ 22 (60 + un τ 24 6) x) 23 (60 + un τ 24 6) y) 24 6 (nI (un τ 24 6 + 1))) (some (.int (nI (un τ 24 6 + 1)))) v M')) ar ss 0 0 (gA G)) 4 M 0 0 98 [(3, .int (bI (inB x (lN 0) (lN 9) && (decide (x ≠ nI 2) || inB y (lN 0) (lN 5)) && (decide (x ≠ nI 3) || inB y (-1000000) (lN 1000000))))), (0, .ref mb), (1, .int x), (2, .int y)] [.int (nI (cd2 (inB x (lN 0) (lN 9) && (decide (x ≠ nI 2) || inB y (lN 0) (lN 5)) && (decide (x ≠ nI 3) || inB y (-1000000) (lN 1000000))) (wdB τ x))), .ref mb] := by
      skip
      refine r_callV C hgX (ci := 14) ml_X12_227 im_X12_holds se_X12_holds rfl rfl hm.k (c_X12_holds l hfl G M mb hm (nI (cd2 (inB x (lN 0) (lN 9) && (decide (x ≠ nI 2) || inB y (lN 0) (lN 5)) && (decide (x ≠ nI 3) || inB y (-1000000) (lN 1000000))) (wdB τ x)))) rfl (Nat.le_of_ble_eq_true rfl) ⟨Nat.le_of_ble_eq_true rfl, Nat.le_of_ble_eq_true rfl⟩ ⟨Nat.le_of_ble_eq_true rfl, Nat.le_of_ble_eq_true rfl⟩ dX12_word_98 rfl ?_
      rintro _ _ ⟨rfl, rfl⟩
      refine V.eSt (st' := [.int (bI (decide (0 < nI (cd2 (inB x (lN 0) (lN 9) && (decide (x ≠ nI 2) || inB y (lN 0) (lN 5)) && (decide (x ≠ nI 3) || inB y (-1000000) (lN 1000000))) (wdB τ x)))))]) rfl ?_
      refine V.ei (y := bI (decide ((cd2 (inB x (lN 0) (lN 9) && (decide (x ≠ nI 2) || inB y (lN 0) (lN 5)) && (decide (x ≠ nI 3) || inB y (-1000000) (lN 1000000))) (wdB τ x)) ≠ 0))) (congrArg bI (hold_d (cd2_le _ _))) ?_
      have hfo := hfo.set0 67 (nI (cd2 (inB x (lN 0) (lN 9) && (decide (x ≠ nI 2) || inB y (lN 0) (lN 5)) && (decide (x ≠ nI 3) || inB y (-1000000) (lN 1000000))) (wdB τ x))) rfl
      have ht := ht.ws 67 (nI (cd2 (inB x (lN 0) (lN 9) && (decide (x ≠ nI 2) || inB y (lN 0) (lN 5)) && (decide (x ≠ nI 3) || inB y (-1000000) (lN 1000000))) (wdB τ x))) rfl rfl
      have htb := ((fOut.rf [67] mb _).set0 67 (nI (cd2 (inB x (lN 0) (lN 9) && (decide (x ≠ nI 2) || inB y (lN 0) (lN 5)) && (decide (x ≠ nI 3) || inB y (-1000000) (lN 1000000))) (wdB τ x))) rfl).tb rfl htb
      have h67 : mI (wI M mb 67 (nI (cd2 (inB x (lN 0) (lN 9) && (decide (x ≠ nI 2) || inB y (lN 0) (lN 5)) && (decide (x ≠ nI 3) || inB y (-1000000) (lN 1000000))) (wdB τ x)))) mb 67 = nI (cd2 (inB x (lN 0) (lN 9) && (decide (x ≠ nI 2) || inB y (lN 0) (lN 5)) && (decide (x ≠ nI 3) || inB y (-1000000) (lN 1000000))) (wdB τ x)) := up2_same _ _ _ _
      have hlb : LTB (wI M mb 67 (nI (cd2 (inB x (lN 0) (lN 9) && (decide (x ≠ nI 2) || inB y (lN 0) (lN 5)) && (decide (x ≠ nI 3) || inB y (-1000000) (lN 1000000))) (wdB τ x)))) mb := hlb.ws 67 _
      refine r_if_eqB C (t := 106) dX12_word_101 (by decide) (fun c101 => ?_) (fun c101 => ?_)
      · skip
        have c101d := of_decide_eq_false c101
        have hC : (cd2 (inB x (lN 0) (lN 9) && (decide (x ≠ nI 2) || inB y (lN 0) (lN 5)) && (decide (x ≠ nI 3) || inB y (-1000000) (lN 1000000))) (wdB τ x)) = 0 := by have := c101d; omega
        obtain ⟨h1, h2⟩ := cd2_0 hC
        have h2d : un τ 24 6 ≠ 10 := of_decide_eq_true (Bool.and_eq_true_iff.mp h2).1
        have hel := (hw.el 6 (by omega)).2
        refine r_aload_n C 1 dX12_word_106 rfl rfl ?_
        refine r_getR C (b := (ma mb 22)) fl_X12_55 rfl hm.k (hm.r 22 rfl) dX12_word_107 ?_
        refine r_bipush C (v := nI 60) dX12_word_110 (by decide) ?_
        refine r_aload_n C 1 dX12_word_112 rfl rfl ?_
        refine r_getR C (b := (ma mb 24)) fl_X12_61 rfl hm.k (hm.r 24 rfl) dX12_word_113 ?_
        refine r_bipush C (v := nI 6) dX12_word_116 (by decide) ?_
        refine r_ialoadN C (hm.i 24 20 rfl) (hm.n 24 7 rfl) (by omega) (by omega) dX12_word_118 ?_
        refine V.ei (y := nI (un τ 24 6)) ((ht.i 24 rfl _).trans (hw.el 6 (by omega)).1) ?_
        have hb0 := (hw.el 6 (by omega)).2
        refine r_iaddN C dX12_word_119 ?_
        refine r_iload_n C 2 dX12_word_120 rfl rfl ?_
        refine r_iastoreN C (hm.i 22 20 rfl) (hm.n 22 70 rfl) (by omega) (by omega) dX12_word_121 ?_
        have htb := ((fOut.rf [22] mb _).setI 22 (60 + un τ 24 6) x rfl).tb rfl htb
        have hlb : LTB (wI (wI M mb 67 (nI (cd2 (inB x (lN 0) (lN 9) && (decide (x ≠ nI 2) || inB y (lN 0) (lN 5)) && (decide (x ≠ nI 3) || inB y (-1000000) (lN 1000000))) (wdB τ x)))) (ma mb 22) (60 + un τ 24 6) x) mb := hlb.wi 22 _ _ rfl
        have hfo := hfo.setI 22 (60 + un τ 24 6) x rfl
        have h67 : mI (wI (wI M mb 67 (nI (cd2 (inB x (lN 0) (lN 9) && (decide (x ≠ nI 2) || inB y (lN 0) (lN 5)) && (decide (x ≠ nI 3) || inB y (-1000000) (lN 1000000))) (wdB τ x)))) (ma mb 22) (60 + un τ 24 6) x) mb 67 = _ := (up2_a _ _ (ma_0 rfl).symm).trans h67
        have ht := ht.ui 22 (60 + un τ 24 6) x rfl
        refine r_aload_n C 1 dX12_word_122 rfl rfl ?_
        refine r_getR C (b := (ma mb 23)) fl_X12_58 rfl hm.k (hm.r 23 rfl) dX12_word_123 ?_
        refine r_bipush C (v := nI 60) dX12_word_126 (by decide) ?_
        refine r_aload_n C 1 dX12_word_128 rfl rfl ?_
        refine r_getR C (b := (ma mb 24)) fl_X12_61 rfl hm.k (hm.r 24 rfl) dX12_word_129 ?_
        refine r_bipush C (v := nI 6) dX12_word_132 (by decide) ?_
        refine r_ialoadN C (hm.i 24 20 rfl) (hm.n 24 7 rfl) (by omega) (by omega) dX12_word_134 ?_
        refine V.ei (y := nI (un τ 24 6)) ((ht.i 24 rfl _).trans (hw.el 6 (by omega)).1) ?_
        have hb1 := (hw.el 6 (by omega)).2
        refine r_iaddN C dX12_word_135 ?_
        refine r_iload_n C 3 dX12_word_136 rfl rfl ?_
        refine r_iastoreN C (hm.i 23 20 rfl) (hm.n 23 70 rfl) (by omega) (by omega) dX12_word_137 ?_
        have htb := ((fOut.rf [23] mb _).setI 23 (60 + un τ 24 6) y rfl).tb rfl htb
        have hlb : LTB (wI (wI (wI M mb 67 (nI (cd2 (inB x (lN 0) (lN 9) && (decide (x ≠ nI 2) || inB y (lN 0) (lN 5)) && (decide (x ≠ nI 3) || inB y (-1000000) (lN 1000000))) (wdB τ x)))) (ma mb 22) (60 + un τ 24 6) x) (ma mb 23) (60 + un τ 24 6) y) mb := hlb.wi 23 _ _ rfl
        have hfo := hfo.setI 23 (60 + un τ 24 6) y rfl
        have h67 : mI (wI (wI (wI M mb 67 (nI (cd2 (inB x (lN 0) (lN 9) && (decide (x ≠ nI 2) || inB y (lN 0) (lN 5)) && (decide (x ≠ nI 3) || inB y (-1000000) (lN 1000000))) (wdB τ x)))) (ma mb 22) (60 + un τ 24 6) x) (ma mb 23) (60 + un τ 24 6) y) mb 67 = _ := (up2_a _ _ (ma_0 rfl).symm).trans h67
        have ht := ht.ui 23 (60 + un τ 24 6) y rfl
        refine r_aload_n C 1 dX12_word_138 rfl rfl ?_
        refine r_getR C (b := (ma mb 24)) fl_X12_61 rfl hm.k (hm.r 24 rfl) dX12_word_139 ?_
        refine r_bipush C (v := nI 6) dX12_word_142 (by decide) ?_
        refine r_dup2 C dX12_word_144 rfl rfl ?_
        refine r_ialoadN C (hm.i 24 20 rfl) (hm.n 24 7 rfl) (by omega) (by omega) dX12_word_145 ?_
        refine V.ei (y := nI (un τ 24 6)) ((ht.i 24 rfl _).trans (hw.el 6 (by omega)).1) ?_
        have hb2 := (hw.el 6 (by omega)).2
        refine r_iconst C (v := nI 1) dX12_word_146 (by decide) ?_
        refine r_iaddN C dX12_word_147 ?_
        refine r_iastoreN C (hm.i 24 20 rfl) (hm.n 24 7 rfl) (by omega) (by omega) dX12_word_148 ?_
        have htb := ((fOut.rf [24] mb _).setI 24 6 (nI (un τ 24 6 + 1)) rfl).tb rfl htb
        have hlb : LTB (wI (wI (wI (wI M mb 67 (nI (cd2 (inB x (lN 0) (lN 9) && (decide (x ≠ nI 2) || inB y (lN 0) (lN 5)) && (decide (x ≠ nI 3) || inB y (-1000000) (lN 1000000))) (wdB τ x)))) (ma mb 22) (60 + un τ 24 6) x) (ma mb 23) (60 + un τ 24 6) y) (ma mb 24) 6 (nI (un τ 24 6 + 1))) mb := hlb.wi 24 _ _ rfl
        have hfo := hfo.setI 24 6 (nI (un τ 24 6 + 1)) rfl
        have h67 : mI (wI (wI (wI (wI M mb 67 (nI (cd2 (inB x (lN 0) (lN 9) && (decide (x ≠ nI 2) || inB y (lN 0) (lN 5)) && (decide (x ≠ nI 3) || inB y (-1000000) (lN 1000000))) (wdB τ x)))) (ma mb 22) (60 + un τ 24 6) x) (ma mb 23) (60 + un τ 24 6) y) (ma mb 24) 6 (nI (un τ 24 6 + 1))) mb 67 = _ := (up2_a _ _ (ma_0 rfl).symm).trans h67
        have ht := ht.ui 24 6 (nI (un τ 24 6 + 1)) rfl
        refine r_aload_n C 1 dX12_word_149 rfl rfl ?_
        refine r_getR C (b := (ma mb 24)) fl_X12_61 rfl hm.k (hm.r 24 rfl) dX12_word_150 ?_
        refine r_bipush C (v := nI 6) dX12_word_153 (by decide) ?_
        refine r_ialoadN C (hm.i 24 20 rfl) (hm.n 24 7 rfl) (by omega) (by omega) dX12_word_155 ?_
        refine V.ei (y := nI (un τ 24 6 + 1)) ((ht.i 24 rfl _).trans (sI_s (τ := sI (sI τ 22 (60 + un τ 24 6) x) 23 (60 + un τ 24 6) y) (k := 24) (x := 6) (v := nI (un τ 24 6 + 1)))) ?_
        exact r_iret C hr (⟨h67, hfo.mo, hlb, fun q => absurd hC q, fun _ => ⟨rfl, ht, htb.cg rfl rfl (fun _ => ⟨rfl, rfl⟩) (fun _ => ⟨rfl, rfl⟩) (fun _ => ⟨rfl, rfl⟩) (fun _ => ⟨rfl, rfl⟩) (fun _ => ⟨rfl, rfl⟩) (fun _ => ⟨rfl, rfl⟩) (fun _ => ⟨rfl, rfl⟩) ⟩, by first | exact KD.i | exact KD.l | exact KD.n⟩) (by first | exact Nat.zero_le _ | decide) (by first | exact Nat.zero_le _ | decide) dX12_word_156
      · skip
        have c101d := of_decide_eq_true c101
        have hC : (cd2 (inB x (lN 0) (lN 9) && (decide (x ≠ nI 2) || inB y (lN 0) (lN 5)) && (decide (x ≠ nI 3) || inB y (-1000000) (lN 1000000))) (wdB τ x)) ≠ 0 := c101d
        refine r_iconst C (v := (-1)) dX12_word_104 (by decide) ?_
        exact r_iret C hr (⟨h67, hfo.mo, hlb, fun _ => ⟨ht, htb⟩, fun q => absurd q hC, by first | exact KD.i | exact KD.l | exact KD.n⟩) (by first | exact Nat.zero_le _ | decide) (by first | exact Nat.zero_le _ | decide) dX12_word_105
    refine r_iload_n C 0 dX12_word_58 rfl rfl ?_
    refine r_if_neB C (t := 66) dX12_word_59 (by decide) (fun c59 => ?_) (fun c59 => ?_)
    · skip
      refine r_aload_n C 1 dX12_word_66 rfl rfl ?_
      refine r_getR C (b := (ma mb 24)) fl_X12_61 rfl hm.k (hm.r 24 rfl) dX12_word_67 ?_
      refine r_bipush C (v := nI 6) dX12_word_70 (by decide) ?_
      refine r_ialoadN C (hm.i 24 20 rfl) (hm.n 24 7 rfl) (by omega) (by omega) dX12_word_72 ?_
      refine V.ei (y := nI (un τ 24 6)) ((ht.i 24 rfl _).trans (hw.el 6 (by omega)).1) ?_
      have hb4 := (hw.el 6 (by omega)).2
      refine r_bipush C (v := nI 10) dX12_word_73 (by decide) ?_
      refine r_icmp_eqN C (t := 93) (by omega) (by omega) dX12_word_75 (by decide) (fun c75 => ?_) (fun c75 => ?_)
      · skip
        refine r_iconst C (v := nI 2) dX12_word_93 (by decide) ?_
        refine r_goto C (t := 98) dX12_word_94 (by decide) ?_
        refine V.ei (y := nI (cd2 (inB x (lN 0) (lN 9) && (decide (x ≠ nI 2) || inB y (lN 0) (lN 5)) && (decide (x ≠ nI 3) || inB y (-1000000) (lN 1000000))) (wdB τ x))) (congrArg nI (by simp only [c59, wdB, show decide (un τ 24 6 ≠ 10) = false from decide_eq_false (fun q => q c75)] <;> rfl)) ?_
        exact jn98
      · skip
        refine r_iload_n C 2 dX12_word_78 rfl rfl ?_
        refine r_iconst C (v := nI 3) dX12_word_79 (by decide) ?_
        refine r_icmp_le C (t := 97) dX12_word_80 (by decide) (fun c80 => ?_) (fun c80 => ?_)
        · skip
          refine r_iconst C (v := nI 0) dX12_word_97 (by decide) ?_
          refine V.ei (y := nI (cd2 (inB x (lN 0) (lN 9) && (decide (x ≠ nI 2) || inB y (lN 0) (lN 5)) && (decide (x ≠ nI 3) || inB y (-1000000) (lN 1000000))) (wdB τ x))) (congrArg nI (by simp only [c59, wdB, show decide (un τ 24 6 ≠ 10) = true from decide_eq_true c75, decide_eq_true c80] <;> rfl)) ?_
          exact jn98
        · skip
          refine r_aload_n C 1 dX12_word_83 rfl rfl ?_
          refine r_bipush C (v := nI 6) dX12_word_84 (by decide) ?_
          refine r_callV C hgX (ci := 14) ml_X12_309 im_X12_depth se_X12_depth rfl rfl hm.k (c_X12_depth l hfl G M mb τ hm ht hw 6 (by omega) (hw.dr)) rfl (Nat.le_of_ble_eq_true rfl) ⟨Nat.le_of_ble_eq_true rfl, Nat.le_of_ble_eq_true rfl⟩ ⟨Nat.le_of_ble_eq_true rfl, Nat.le_of_ble_eq_true rfl⟩ dX12_word_86 rfl ?_
          rintro _ _ ⟨rfl, rfl⟩
          refine V.eSt (st' := [.int (nI (fmD τ 6 (un τ 24 6))), .ref mb]) rfl ?_
          have hfd := fmD_le τ 6 (un τ 24 6)
          have helq := (hw.el 6 (by omega)).2
          refine r_iconst C (v := nI 2) dX12_word_89 (by decide) ?_
          refine r_icmp_geN C (t := 97) (by omega) (by omega) dX12_word_90 (by decide) (fun c90 => ?_) (fun c90 => ?_)
          · skip
            refine r_iconst C (v := nI 0) dX12_word_97 (by decide) ?_
            refine V.ei (y := nI (cd2 (inB x (lN 0) (lN 9) && (decide (x ≠ nI 2) || inB y (lN 0) (lN 5)) && (decide (x ≠ nI 3) || inB y (-1000000) (lN 1000000))) (wdB τ x))) (congrArg nI (by simp only [c59, wdB, show decide (un τ 24 6 ≠ 10) = true from decide_eq_true c75, decide_eq_false c80, decide_eq_true c90] <;> rfl)) ?_
            exact jn98
          · skip
            refine r_iconst C (v := nI 2) dX12_word_93 (by decide) ?_
            refine r_goto C (t := 98) dX12_word_94 (by decide) ?_
            refine V.ei (y := nI (cd2 (inB x (lN 0) (lN 9) && (decide (x ≠ nI 2) || inB y (lN 0) (lN 5)) && (decide (x ≠ nI 3) || inB y (-1000000) (lN 1000000))) (wdB τ x))) (congrArg nI (by simp only [c59, wdB, show decide (un τ 24 6 ≠ 10) = true from decide_eq_true c75, decide_eq_false c80, decide_eq_false c90] <;> rfl)) ?_
            exact jn98
    · skip
      refine r_iconst C (v := nI 1) dX12_word_62 (by decide) ?_
      refine r_goto C (t := 98) dX12_word_63 (by decide) ?_
      refine V.ei (y := nI (cd2 (inB x (lN 0) (lN 9) && (decide (x ≠ nI 2) || inB y (lN 0) (lN 5)) && (decide (x ≠ nI 3) || inB y (-1000000) (lN 1000000))) (wdB τ x))) (congrArg nI (by simp only [c59] <;> rfl)) ?_
      exact jn98
  refine r_aload_n C 0 dX12_word_0 rfl rfl ?_
  refine r_iload_n C 1 dX12_word_1 rfl rfl ?_
  refine r_i2l C dX12_word_2 ?_
  refine r_lconst C (v := lN 0) dX12_word_3 (by decide) ?_
  refine r_ldc2 C (v := 9) kl_X12_305 dX12_word_4 ?_
  refine V.el (y := lN 9) (by decide) ?_
  refine r_callV C hgX (ci := 14) ml_X12_191 im_X12_in se_X12_in rfl rfl hm.k (c_X12_in l hfl G M mb x.toInt64 (lN 0) (lN 9)) rfl (Nat.le_of_ble_eq_true rfl) ⟨Nat.le_of_ble_eq_true rfl, Nat.le_of_ble_eq_true rfl⟩ ⟨Nat.le_of_ble_eq_true rfl, Nat.le_of_ble_eq_true rfl⟩ dX12_word_7 rfl ?_
  rintro _ _ ⟨rfl, rfl⟩
  refine V.eSt (st' := [.int (bI (decide ((lN 0) ≤ x.toInt64 ∧ x.toInt64 ≤ (lN 9))))]) rfl ?_
  refine V.ei (y := bI (inB x (lN 0) (lN 9))) rfl ?_
  refine r_if_eqB C (t := 55) dX12_word_10 (by decide) (fun c10 => ?_) (fun c10 => ?_)
  · skip
    refine r_iconst C (v := nI 0) dX12_word_55 (by decide) ?_
    refine V.eSt (st' := [.int (bI false)]) rfl ?_
    refine V.ei (y := bI (inB x (lN 0) (lN 9) && (decide (x ≠ nI 2) || inB y (lN 0) (lN 5)) && (decide (x ≠ nI 3) || inB y (-1000000) (lN 1000000)))) (congrArg bI (by simp only [c10] <;> rfl)) ?_
    exact jn56
  · skip
    refine r_iload_n C 1 dX12_word_13 rfl rfl ?_
    refine r_iconst C (v := nI 2) dX12_word_14 (by decide) ?_
    refine r_icmp_ne C (t := 31) dX12_word_15 (by decide) (fun c15 => ?_) (fun c15 => ?_)
    · skip
      refine r_iload_n C 1 dX12_word_31 rfl rfl ?_
      refine r_iconst C (v := nI 3) dX12_word_32 (by decide) ?_
      refine r_icmp_ne C (t := 51) dX12_word_33 (by decide) (fun c33 => ?_) (fun c33 => ?_)
      · skip
        refine r_iconst C (v := nI 1) dX12_word_51 (by decide) ?_
        refine r_goto C (t := 56) dX12_word_52 (by decide) ?_
        refine V.eSt (st' := [.int (bI true)]) rfl ?_
        refine V.ei (y := bI (inB x (lN 0) (lN 9) && (decide (x ≠ nI 2) || inB y (lN 0) (lN 5)) && (decide (x ≠ nI 3) || inB y (-1000000) (lN 1000000)))) (congrArg bI (by simp only [c10, decide_eq_true c15, decide_eq_true c33] <;> rfl)) ?_
        exact jn56
      · skip
        refine r_aload_n C 0 dX12_word_36 rfl rfl ?_
        refine r_iload_n C 2 dX12_word_37 rfl rfl ?_
        refine r_i2l C dX12_word_38 ?_
        refine r_ldc2 C (v := (-1000000)) kl_X12_307 dX12_word_39 ?_
        refine r_ldc2 C (v := 1000000) kl_X12_225 dX12_word_42 ?_
        refine V.el (y := lN 1000000) (by decide) ?_
        refine r_callV C hgX (ci := 14) ml_X12_191 im_X12_in se_X12_in rfl rfl hm.k (c_X12_in l hfl G M mb y.toInt64 (-1000000) (lN 1000000)) rfl (Nat.le_of_ble_eq_true rfl) ⟨Nat.le_of_ble_eq_true rfl, Nat.le_of_ble_eq_true rfl⟩ ⟨Nat.le_of_ble_eq_true rfl, Nat.le_of_ble_eq_true rfl⟩ dX12_word_45 rfl ?_
        rintro _ _ ⟨rfl, rfl⟩
        refine V.eSt (st' := [.int (bI (decide ((-1000000) ≤ y.toInt64 ∧ y.toInt64 ≤ (lN 1000000))))]) rfl ?_
        refine V.ei (y := bI (inB y (-1000000) (lN 1000000))) rfl ?_
        refine r_if_eqB C (t := 55) dX12_word_48 (by decide) (fun c48 => ?_) (fun c48 => ?_)
        · skip
          refine r_iconst C (v := nI 0) dX12_word_55 (by decide) ?_
          refine V.eSt (st' := [.int (bI false)]) rfl ?_
          refine V.ei (y := bI (inB x (lN 0) (lN 9) && (decide (x ≠ nI 2) || inB y (lN 0) (lN 5)) && (decide (x ≠ nI 3) || inB y (-1000000) (lN 1000000)))) (congrArg bI (by simp only [c10, decide_eq_true c15, show decide (x ≠ nI 3) = false from decide_eq_false (fun q => q c33), c48] <;> rfl)) ?_
          exact jn56
        · skip
          refine r_iconst C (v := nI 1) dX12_word_51 (by decide) ?_
          refine r_goto C (t := 56) dX12_word_52 (by decide) ?_
          refine V.eSt (st' := [.int (bI true)]) rfl ?_
          refine V.ei (y := bI (inB x (lN 0) (lN 9) && (decide (x ≠ nI 2) || inB y (lN 0) (lN 5)) && (decide (x ≠ nI 3) || inB y (-1000000) (lN 1000000)))) (congrArg bI (by simp only [c10, decide_eq_true c15, show decide (x ≠ nI 3) = false from decide_eq_false (fun q => q c33), c48] <;> rfl)) ?_
          exact jn56
    · skip
      refine r_aload_n C 0 dX12_word_18 rfl rfl ?_
      refine r_iload_n C 2 dX12_word_19 rfl rfl ?_
      refine r_i2l C dX12_word_20 ?_
      refine r_lconst C (v := lN 0) dX12_word_21 (by decide) ?_
      refine r_ldc2 C (v := 5) kl_X12_189 dX12_word_22 ?_
      refine V.el (y := lN 5) (by decide) ?_
      refine r_callV C hgX (ci := 14) ml_X12_191 im_X12_in se_X12_in rfl rfl hm.k (c_X12_in l hfl G M mb y.toInt64 (lN 0) (lN 5)) rfl (Nat.le_of_ble_eq_true rfl) ⟨Nat.le_of_ble_eq_true rfl, Nat.le_of_ble_eq_true rfl⟩ ⟨Nat.le_of_ble_eq_true rfl, Nat.le_of_ble_eq_true rfl⟩ dX12_word_25 rfl ?_
      rintro _ _ ⟨rfl, rfl⟩
      refine V.eSt (st' := [.int (bI (decide ((lN 0) ≤ y.toInt64 ∧ y.toInt64 ≤ (lN 5))))]) rfl ?_
      refine V.ei (y := bI (inB y (lN 0) (lN 5))) rfl ?_
      refine r_if_eqB C (t := 55) dX12_word_28 (by decide) (fun c28 => ?_) (fun c28 => ?_)
      · skip
        refine r_iconst C (v := nI 0) dX12_word_55 (by decide) ?_
        refine V.eSt (st' := [.int (bI false)]) rfl ?_
        refine V.ei (y := bI (inB x (lN 0) (lN 9) && (decide (x ≠ nI 2) || inB y (lN 0) (lN 5)) && (decide (x ≠ nI 3) || inB y (-1000000) (lN 1000000)))) (congrArg bI (by simp only [c10, show decide (x ≠ nI 2) = false from decide_eq_false (fun q => q c15), c28] <;> rfl)) ?_
        exact jn56
      · skip
        refine r_iload_n C 1 dX12_word_31 rfl rfl ?_
        refine r_iconst C (v := nI 3) dX12_word_32 (by decide) ?_
        refine r_icmp_ne C (t := 51) dX12_word_33 (by decide) (fun c33 => ?_) (fun c33 => ?_)
        · skip
          refine r_iconst C (v := nI 1) dX12_word_51 (by decide) ?_
          refine r_goto C (t := 56) dX12_word_52 (by decide) ?_
          refine V.eSt (st' := [.int (bI true)]) rfl ?_
          refine V.ei (y := bI (inB x (lN 0) (lN 9) && (decide (x ≠ nI 2) || inB y (lN 0) (lN 5)) && (decide (x ≠ nI 3) || inB y (-1000000) (lN 1000000)))) (congrArg bI (by simp only [c10, show decide (x ≠ nI 2) = false from decide_eq_false (fun q => q c15), c28, decide_eq_true c33] <;> rfl)) ?_
          exact jn56
        · skip
          refine r_aload_n C 0 dX12_word_36 rfl rfl ?_
          refine r_iload_n C 2 dX12_word_37 rfl rfl ?_
          refine r_i2l C dX12_word_38 ?_
          refine r_ldc2 C (v := (-1000000)) kl_X12_307 dX12_word_39 ?_
          refine r_ldc2 C (v := 1000000) kl_X12_225 dX12_word_42 ?_
          refine V.el (y := lN 1000000) (by decide) ?_
          refine r_callV C hgX (ci := 14) ml_X12_191 im_X12_in se_X12_in rfl rfl hm.k (c_X12_in l hfl G M mb y.toInt64 (-1000000) (lN 1000000)) rfl (Nat.le_of_ble_eq_true rfl) ⟨Nat.le_of_ble_eq_true rfl, Nat.le_of_ble_eq_true rfl⟩ ⟨Nat.le_of_ble_eq_true rfl, Nat.le_of_ble_eq_true rfl⟩ dX12_word_45 rfl ?_
          rintro _ _ ⟨rfl, rfl⟩
          refine V.eSt (st' := [.int (bI (decide ((-1000000) ≤ y.toInt64 ∧ y.toInt64 ≤ (lN 1000000))))]) rfl ?_
          refine V.ei (y := bI (inB y (-1000000) (lN 1000000))) rfl ?_
          refine r_if_eqB C (t := 55) dX12_word_48 (by decide) (fun c48 => ?_) (fun c48 => ?_)
          · skip
            refine r_iconst C (v := nI 0) dX12_word_55 (by decide) ?_
            refine V.eSt (st' := [.int (bI false)]) rfl ?_
            refine V.ei (y := bI (inB x (lN 0) (lN 9) && (decide (x ≠ nI 2) || inB y (lN 0) (lN 5)) && (decide (x ≠ nI 3) || inB y (-1000000) (lN 1000000)))) (congrArg bI (by simp only [c10, show decide (x ≠ nI 2) = false from decide_eq_false (fun q => q c15), c28, show decide (x ≠ nI 3) = false from decide_eq_false (fun q => q c33), c48] <;> rfl)) ?_
            exact jn56
          · skip
            refine r_iconst C (v := nI 1) dX12_word_51 (by decide) ?_
            refine r_goto C (t := 56) dX12_word_52 (by decide) ?_
            refine V.eSt (st' := [.int (bI true)]) rfl ?_
            refine V.ei (y := bI (inB x (lN 0) (lN 9) && (decide (x ≠ nI 2) || inB y (lN 0) (lN 5)) && (decide (x ≠ nI 3) || inB y (-1000000) (lN 1000000)))) (congrArg bI (by simp only [c10, show decide (x ≠ nI 2) = false from decide_eq_false (fun q => q c15), c28, show decide (x ≠ nI 3) = false from decide_eq_false (fun q => q c33), c48] <;> rfl)) ?_
            exact jn56
