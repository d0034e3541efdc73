set_option maxHeartbeats 4000000 in
set_option maxRecDepth 100000 in
theorem c_X12_element (l : Launch) (hfl : l.flags = flags0) (G : gW) (M : Mem) (mb : Nat) (τ : Mu) (hm : MOK (mK M) (mN M) (mR M) mb) (ht : TE (mI M) (mL M) mb τ) (hw : WF τ) (htb : TEb (mI M) (mL M) mb τ) (hlb : LTB M mb) (x y : Int32) : CT l yX12_element cX12_element 6 (some .int) 2 0 0 49 G M [.ref mb, .int x, .int y] (fun v M' => PP mb M τ (cd3 (inB x (lN 0) (lN (un τ 26 26)) && decide (x < nI 6)) (inB y (lN 0) (lN 63)) (elB τ x)) (elU τ x.toNatClampNeg y.toNatClampNeg) (some (.int (nI (un τ 26 26 + (if x.toNatClampNeg = un τ 26 26 then 1 else 0))))) v M') := by
  refine CT.of hfl rfl (Nat.le_of_ble_eq_true rfl) ?_
  intro pp ee ss mm ar bw mt cd C hgX hr hini
  have hnc := hw.nc.2
  have hsh := hw.sh.2
  have hnl := hw.nl.2
  have hne := hw.ne.2
  have hng := hw.ng.2
  have hop := hw.op.2
  have hnp := hw.np.2
  have ht0 := ht
  have hm0 := hm
  have htb0 := htb
  have hfo := fOut.rf [67, 22, 23, 24, 25, 26, 27] mb M
  refine V.eLo (lo' := [(0, .ref mb), (1, .int x), (2, .int y)]) rfl ?_
  have jn26 : V pp l ee ({ frames := 2, cells := 0, slots := 0, locals := 49 } : Room) ss mm ar bw mt cd G (MQ bw (Ke G (fun v M' => PP mb M τ (cd3 (inB x (lN 0) (lN (un τ 26 26)) && decide (x < nI 6)) (inB y (lN 0) (lN 63)) (elB τ x)) (elU τ x.toNatClampNeg y.toNatClampNeg) (some (.int (nI (un τ 26 26 + (if x.toNatClampNeg = un τ 26 26 then 1 else 0))))) v M')) ar ss 0 0 (gA G)) 6 M 0 0 26 [(0, .ref mb), (1, .int x), (2, .int y)] [.int (bI (inB x (lN 0) (lN (un τ 26 26)) && decide (x < nI 6)))] := by
    skip
    refine r_istore_n C (lo' := [(3, .int (bI (inB x (lN 0) (lN (un τ 26 26)) && decide (x < nI 6)))), (0, .ref mb), (1, .int x), (2, .int y)]) dX12_element_26 rfl (by decide) rfl ?_
    have jn54 : V pp l ee ({ frames := 2, cells := 0, slots := 0, locals := 49 } : Room) ss mm ar bw mt cd G (MQ bw (Ke G (fun v M' => PP mb M τ (cd3 (inB x (lN 0) (lN (un τ 26 26)) && decide (x < nI 6)) (inB y (lN 0) (lN 63)) (elB τ x)) (elU τ x.toNatClampNeg y.toNatClampNeg) (some (.int (nI (un τ 26 26 + (if x.toNatClampNeg = un τ 26 26 then 1 else 0))))) v M')) ar ss 0 0 (gA G)) 6 M 0 0 54 [(3, .int (bI (inB x (lN 0) (lN (un τ 26 26)) && decide (x < nI 6)))), (0, .ref mb), (1, .int x), (2, .int y)] [.int (bI ((inB x (lN 0) (lN (un τ 26 26)) && decide (x < nI 6)) && !(elB τ x)))] := by
      skip
      refine r_istore C (lo' := [(4, .int (bI ((inB x (lN 0) (lN (un τ 26 26)) && decide (x < nI 6)) && !(elB τ x)))), (3, .int (bI (inB x (lN 0) (lN (un τ 26 26)) && decide (x < nI 6)))), (0, .ref mb), (1, .int x), (2, .int y)]) dX12_element_54 (by decide) rfl ?_
      refine r_aload_n C 2 dX12_element_56 rfl rfl ?_
      have jn92 : V pp l ee ({ frames := 2, cells := 0, slots := 0, locals := 49 } : Room) ss mm ar bw mt cd G (MQ bw (Ke G (fun v M' => PP mb M τ (cd3 (inB x (lN 0) (lN (un τ 26 26)) && decide (x < nI 6)) (inB y (lN 0) (lN 63)) (elB τ x)) (elU τ x.toNatClampNeg y.toNatClampNeg) (some (.int (nI (un τ 26 26 + (if x.toNatClampNeg = un τ 26 26 then 1 else 0))))) v M')) ar ss 0 0 (gA G)) 6 M 0 0 92 [(4, .int (bI ((inB x (lN 0) (lN (un τ 26 26)) && decide (x < nI 6)) && !(elB τ x)))), (3, .int (bI (inB x (lN 0) (lN (un τ 26 26)) && decide (x < nI 6)))), (0, .ref mb), (1, .int x), (2, .int y)] [.int (nI (cd3 (inB x (lN 0) (lN (un τ 26 26)) && decide (x < nI 6)) (inB y (lN 0) (lN 63)) (elB τ x))), .ref mb] := by
        skip
        refine r_callV C hgX (ci := 14) ml_X12_227 im_X12_holds se_X12_holds rfl rfl hm.k (c_X12_holds l hfl G M mb hm (nI (cd3 (inB x (lN 0) (lN (un τ 26 26)) && decide (x < nI 6)) (inB y (lN 0) (lN 63)) (elB τ x)))) rfl (Nat.le_of_ble_eq_true rfl) ⟨Nat.le_of_ble_eq_true rfl, Nat.le_of_ble_eq_true rfl⟩ ⟨Nat.le_of_ble_eq_true rfl, Nat.le_of_ble_eq_true rfl⟩ dX12_element_92 rfl ?_
        rintro _ _ ⟨rfl, rfl⟩
        refine V.eSt (st' := [.int (bI (decide (0 < nI (cd3 (inB x (lN 0) (lN (un τ 26 26)) && decide (x < nI 6)) (inB y (lN 0) (lN 63)) (elB τ x)))))]) rfl ?_
        refine V.ei (y := bI (decide ((cd3 (inB x (lN 0) (lN (un τ 26 26)) && decide (x < nI 6)) (inB y (lN 0) (lN 63)) (elB τ x)) ≠ 0))) (congrArg bI (hold_d (cd3_le _ _ _))) ?_
        have hfo := hfo.set0 67 (nI (cd3 (inB x (lN 0) (lN (un τ 26 26)) && decide (x < nI 6)) (inB y (lN 0) (lN 63)) (elB τ x))) rfl
        have ht := ht.ws 67 (nI (cd3 (inB x (lN 0) (lN (un τ 26 26)) && decide (x < nI 6)) (inB y (lN 0) (lN 63)) (elB τ x))) rfl rfl
        have htb := ((fOut.rf [67] mb _).set0 67 (nI (cd3 (inB x (lN 0) (lN (un τ 26 26)) && decide (x < nI 6)) (inB y (lN 0) (lN 63)) (elB τ x))) rfl).tb rfl htb
        have h67 : mI (wI M mb 67 (nI (cd3 (inB x (lN 0) (lN (un τ 26 26)) && decide (x < nI 6)) (inB y (lN 0) (lN 63)) (elB τ x)))) mb 67 = nI (cd3 (inB x (lN 0) (lN (un τ 26 26)) && decide (x < nI 6)) (inB y (lN 0) (lN 63)) (elB τ x)) := up2_same _ _ _ _
        have hlb : LTB (wI M mb 67 (nI (cd3 (inB x (lN 0) (lN (un τ 26 26)) && decide (x < nI 6)) (inB y (lN 0) (lN 63)) (elB τ x)))) mb := hlb.ws 67 _
        refine r_if_eqB C (t := 100) dX12_element_95 (by decide) (fun c95 => ?_) (fun c95 => ?_)
        · skip
          have c95d := of_decide_eq_false c95
          have hC : (cd3 (inB x (lN 0) (lN (un τ 26 26)) && decide (x < nI 6)) (inB y (lN 0) (lN 63)) (elB τ x)) = 0 := by have := c95d; omega
          obtain ⟨h1, h2, h3⟩ := cd3_0 hC
          obtain ⟨hx1, hx2⟩ := Bool.and_eq_true_iff.mp h1
          obtain ⟨c, hc0, hcn, e_x⟩ := inB_N (by decide) (by omega) hx1
          have hc6 : c < 6 := by have q := of_decide_eq_true hx2; rw [e_x] at q; exact (nI_ltI (by omega) (by decide)).mp q
          have hcx : x.toNatClampNeg = c := by rw [e_x, nI_clamp (by omega)]
          obtain ⟨d, hd0, hd6, e_y⟩ := inB_N (by decide) (by decide) h2
          have hrg : (rgR τ c 7).testBit c = false := by have q := (Bool.and_eq_true_iff.mp h3).2; rw [hcx] at q; simpa using q
          have hel := (hw.el 6 (by omega)).2
          refine V.eLo (lo' := [(4, .int (bI ((inB x (lN 0) (lN (un τ 26 26)) && decide (x < nI 6)) && !(elB τ x)))), (3, .int (bI (inB x (lN 0) (lN (un τ 26 26)) && decide (x < nI 6)))), (0, .ref mb), (1, .int (nI c)), (2, .int (nI d))]) (by rw [e_x, e_y]) ?_
          refine r_iconst C (v := nI 0) dX12_element_100 (by decide) ?_
          refine r_istore C (lo' := [(5, .int (nI 0)), (4, .int (bI ((inB x (lN 0) (lN (un τ 26 26)) && decide (x < nI 6)) && !(elB τ x)))), (3, .int (bI (inB x (lN 0) (lN (un τ 26 26)) && decide (x < nI 6)))), (0, .ref mb), (1, .int (nI c)), (2, .int (nI d))]) dX12_element_101 (by decide) rfl ?_
          have lp103 : ∀ (k103 : Nat) (M1 : Mem) (k : Nat) (hk : k ≤ 10) (hfo : fOut [67, 22, 23, 24, 25, 26, 27] mb M M1) (ht : TE (mI M1) (mL M1) mb (cpS τ c k)) (htb : TEb (mI M1) (mL M1) mb τ) (hm : MOK (mK M1) (mN M1) (mR M1) mb) (h67 : mI M1 mb 67 = nI (cd3 (inB x (lN 0) (lN (un τ 26 26)) && decide (x < nI 6)) (inB y (lN 0) (lN 63)) (elB τ x))) (hlb : LTB M1 mb), 11 - k < k103 → V pp l ee ({ frames := 2, cells := 0, slots := 0, locals := 49 } : Room) ss mm ar bw mt cd G (MQ bw (Ke G (fun v M' => PP mb M τ (cd3 (inB x (lN 0) (lN (un τ 26 26)) && decide (x < nI 6)) (inB y (lN 0) (lN 63)) (elB τ x)) (elU τ x.toNatClampNeg y.toNatClampNeg) (some (.int (nI (un τ 26 26 + (if x.toNatClampNeg = un τ 26 26 then 1 else 0))))) v M')) ar ss 0 0 (gA G)) 6 M1 0 0 103 [(0, .ref mb), (1, .int (nI c)), (2, .int (nI d)), (5, .int (nI k))] [] := by
            intro k103
            induction k103 with
            | zero => intro M1 k hk hfo ht htb hm h67 hlb hz103; exact absurd hz103 (Nat.not_lt_zero _)
            | succ k103 ih103 =>
              intro M1 k hk hfo ht htb hm h67 hlb hz103
              refine r_iload C 3 dX12_element_103 rfl ?_
              refine r_bipush C (v := nI 10) dX12_element_105 (by decide) ?_
              refine r_icmp_geN C (t := 160) (by omega) (by omega) dX12_element_107 (by decide) (fun c107 => ?_) (fun c107 => ?_)
              · skip
                have ek : k = 10 := by omega
                subst ek
                refine r_aload_n C 0 dX12_element_160 rfl rfl ?_
                refine r_getR C (b := (ma mb 24)) fl_X12_61 rfl hm.k (hm.r 24 rfl) dX12_element_161 ?_
                refine r_iload_n C 1 dX12_element_164 rfl rfl ?_
                refine r_aload_n C 0 dX12_element_165 rfl rfl ?_
                refine r_getR C (b := (ma mb 24)) fl_X12_61 rfl hm.k (hm.r 24 rfl) dX12_element_166 ?_
                refine r_bipush C (v := nI 6) dX12_element_169 (by decide) ?_
                refine r_ialoadN C (hm.i 24 20 rfl) (hm.n 24 7 rfl) (by omega) (by omega) dX12_element_171 ?_
                refine V.ei (y := nI (un τ 24 6)) ((ht.i 24 rfl _).trans (hw.el 6 (by omega)).1) ?_
                have hb0 := (hw.el 6 (by omega)).2
                refine r_iastoreN C (hm.i 24 20 rfl) (hm.n 24 7 rfl) (by omega) (by omega) dX12_element_172 ?_
                have htb := ((fOut.rf [24] mb _).setI 24 c (nI (un τ 24 6)) rfl).tb rfl htb
                have hlb : LTB (wI M1 (ma mb 24) c (nI (un τ 24 6))) mb := hlb.wi 24 _ _ rfl
                have hfo := hfo.setI 24 c (nI (un τ 24 6)) rfl
                have h67 : mI (wI M1 (ma mb 24) c (nI (un τ 24 6))) mb 67 = _ := (up2_a _ _ (ma_0 rfl).symm).trans h67
                have ht := ht.ui 24 c (nI (un τ 24 6)) rfl
                refine r_aload_n C 0 dX12_element_173 rfl rfl ?_
                refine r_getR C (b := (ma mb 24)) fl_X12_61 rfl hm.k (hm.r 24 rfl) dX12_element_174 ?_
                refine r_bipush C (v := nI 6) dX12_element_177 (by decide) ?_
                refine r_iconst C (v := nI 0) dX12_element_179 (by decide) ?_
                refine r_iastoreN C (hm.i 24 20 rfl) (hm.n 24 7 rfl) (by omega) (by omega) dX12_element_180 ?_
                have htb := ((fOut.rf [24] mb _).setI 24 6 (nI 0) rfl).tb rfl htb
                have hlb : LTB (wI (wI M1 (ma mb 24) c (nI (un τ 24 6))) (ma mb 24) 6 (nI 0)) mb := hlb.wi 24 _ _ rfl
                have hfo := hfo.setI 24 6 (nI 0) rfl
                have h67 : mI (wI (wI M1 (ma mb 24) c (nI (un τ 24 6))) (ma mb 24) 6 (nI 0)) mb 67 = _ := (up2_a _ _ (ma_0 rfl).symm).trans h67
                have ht := ht.ui 24 6 (nI 0) rfl
                refine r_aload_n C 0 dX12_element_181 rfl rfl ?_
                refine r_getR C (b := (ma mb 25)) fl_X12_64 rfl hm.k (hm.r 25 rfl) dX12_element_182 ?_
                refine r_iload_n C 1 dX12_element_185 rfl rfl ?_
                refine r_iload_n C 2 dX12_element_186 rfl rfl ?_
                refine r_iastoreN C (hm.i 25 20 rfl) (hm.n 25 6 rfl) (by omega) (by omega) dX12_element_187 ?_
                have htb := ((fOut.rf [25] mb _).setI 25 c (nI d) rfl).tb rfl htb
                have hlb : LTB (wI (wI (wI M1 (ma mb 24) c (nI (un τ 24 6))) (ma mb 24) 6 (nI 0)) (ma mb 25) c (nI d)) mb := hlb.wi 25 _ _ rfl
                have hfo := hfo.setI 25 c (nI d) rfl
                have h67 : mI (wI (wI (wI M1 (ma mb 24) c (nI (un τ 24 6))) (ma mb 24) 6 (nI 0)) (ma mb 25) c (nI d)) mb 67 = _ := (up2_a _ _ (ma_0 rfl).symm).trans h67
                have ht := ht.ui 25 c (nI d) rfl
                refine r_aload_n C 0 dX12_element_188 rfl rfl ?_
                refine r_dup C dX12_element_189 rfl ?_
                refine r_getI C fl_X12_316 rfl hm.k dX12_element_190 ?_
                refine V.ei (y := nI (un τ 26 26)) ((ht.s 26 rfl).trans hw.ne.1) ?_
                have jn206 : V pp l ee ({ frames := 2, cells := 0, slots := 0, locals := 49 } : Room) ss mm ar bw mt cd G (MQ bw (Ke G (fun v M' => PP mb M τ (cd3 (inB x (lN 0) (lN (un τ 26 26)) && decide (x < nI 6)) (inB y (lN 0) (lN 63)) (elB τ x)) (elU τ x.toNatClampNeg y.toNatClampNeg) (some (.int (nI (un τ 26 26 + (if x.toNatClampNeg = un τ 26 26 then 1 else 0))))) v M')) ar ss 0 0 (gA G)) 6 (wI (wI (wI M1 (ma mb 24) c (nI (un τ 24 6))) (ma mb 24) 6 (nI 0)) (ma mb 25) c (nI d)) 0 0 206 [(0, .ref mb), (1, .int (nI c)), (2, .int (nI d)), (5, .int (nI 10))] [.int (nI (if c = un τ 26 26 then 1 else 0)), .int (nI (un τ 26 26)), .ref mb] := by
                  skip
                  refine r_iaddN C dX12_element_206 ?_
                  refine r_putI C fl_X12_316 hm.k dX12_element_207 ?_
                  have htb := ((fOut.rf [26] mb _).set0 26 (nI (un τ 26 26 + (if c = un τ 26 26 then 1 else 0))) rfl).tb rfl htb
                  have hlb : LTB (wI (wI (wI (wI M1 (ma mb 24) c (nI (un τ 24 6))) (ma mb 24) 6 (nI 0)) (ma mb 25) c (nI d)) mb 26 (nI (un τ 26 26 + (if c = un τ 26 26 then 1 else 0)))) mb := hlb.ws 26 _
                  have hfo := hfo.set0 26 (nI (un τ 26 26 + (if c = un τ 26 26 then 1 else 0))) rfl
                  have h67 : mI (wI (wI (wI (wI M1 (ma mb 24) c (nI (un τ 24 6))) (ma mb 24) 6 (nI 0)) (ma mb 25) c (nI d)) mb 26 (nI (un τ 26 26 + (if c = un τ 26 26 then 1 else 0)))) mb 67 = _ := (up2_k _ _ (by decide)).trans h67
                  have ht := ht.us 26 (nI (un τ 26 26 + (if c = un τ 26 26 then 1 else 0))) rfl
                  refine r_aload_n C 0 dX12_element_210 rfl rfl ?_
                  refine r_callV C hgX (ci := 14) ml_X12_324 im_X12_arrange se_X12_arrange rfl rfl (show mK (wI (wI (wI (wI M1 (ma mb 24) c (nI (un τ 24 6))) (ma mb 24) 6 (nI 0)) (ma mb 25) c (nI d)) mb 26 (nI (un τ 26 26 + (if c = un τ 26 26 then 1 else 0)))) mb = 14 + 1 from hm.k) (c_X12_arrange l hfl G (wI (wI (wI (wI M1 (ma mb 24) c (nI (un τ 24 6))) (ma mb 24) 6 (nI 0)) (ma mb 25) c (nI d)) mb 26 (nI (un τ 26 26 + (if c = un τ 26 26 then 1 else 0)))) mb (elS τ c d) hm ht (elS_e hw hcn hc6) (elS_ac hw hcn hc6 hrg)) rfl (Nat.le_of_ble_eq_true rfl) ⟨Nat.le_of_ble_eq_true rfl, Nat.le_of_ble_eq_true rfl⟩ ⟨Nat.le_of_ble_eq_true rfl, Nat.le_of_ble_eq_true rfl⟩ dX12_element_211 rfl ?_
                  rintro _ My4 ⟨rfl, hfo4, hte4⟩
                  have hm := hfo4.ok hm
                  have htb := hfo4.tb rfl htb
                  have hlb := hlb.fo hfo4 rfl
                  have h67 := (hfo4.s 67 rfl).trans h67
                  have hfo := hfo.tr (hfo4.mono rfl)
                  have ht := (congrArg (fun n => TE (mI My4) (mL My4) mb (arU (elS τ c d) n)) (elS_n hw)).mp hte4
                  refine r_aload_n C 0 dX12_element_214 rfl rfl ?_
                  refine r_getI C fl_X12_316 rfl hm.k dX12_element_215 ?_
                  refine V.ei (y := nI (un τ 26 26 + (if c = un τ 26 26 then 1 else 0))) ((ht.s 26 rfl).trans (elS_26 τ c d)) ?_
                  exact r_iret C hr (⟨h67, hfo.mo, hlb, fun q => absurd hC q, fun _ => ⟨by rw [hcx], by rw [← (show elU τ c d = elU τ x.toNatClampNeg y.toNatClampNeg by rw [e_x, e_y, nI_clamp (n := c) (by omega), nI_clamp (n := d) (by omega)])]; exact ht, by rw [← (show elU τ c d = elU τ x.toNatClampNeg y.toNatClampNeg by rw [e_x, e_y, nI_clamp (n := c) (by omega), nI_clamp (n := d) (by omega)])]; exact htb.cg rfl rfl (fun _ => ⟨rfl, rfl⟩) (fun _ => ⟨rfl, rfl⟩) (fun _ => ⟨rfl, rfl⟩) (fun _ => ⟨rfl, rfl⟩) (fun _ => ⟨rfl, rfl⟩) (fun _ => ⟨rfl, rfl⟩) (fun _ => ⟨rfl, rfl⟩) ⟩, by first | exact KD.i | exact KD.l | exact KD.n⟩) (by first | exact Nat.zero_le _ | decide) (by first | exact Nat.zero_le _ | decide) dX12_element_218
                refine r_iload_n C 1 dX12_element_193 rfl rfl ?_
                refine r_aload_n C 0 dX12_element_194 rfl rfl ?_
                refine r_getI C fl_X12_316 rfl hm.k dX12_element_195 ?_
                refine V.ei (y := nI (un τ 26 26)) ((ht.s 26 rfl).trans hw.ne.1) ?_
                refine r_icmp_neN C (t := 205) (by omega) (by omega) dX12_element_198 (by decide) (fun c198 => ?_) (fun c198 => ?_)
                · skip
                  refine r_iconst C (v := nI 0) dX12_element_205 (by decide) ?_
                  refine V.ei (y := nI (if c = un τ 26 26 then 1 else 0)) (congrArg nI (by rw [if_neg c198])) ?_
                  exact jn206
                · skip
                  refine r_iconst C (v := nI 1) dX12_element_201 (by decide) ?_
                  refine r_goto C (t := 206) dX12_element_202 (by decide) ?_
                  refine V.ei (y := nI (if c = un τ 26 26 then 1 else 0)) (congrArg nI (by rw [if_pos c198])) ?_
                  exact jn206
              · skip
                refine r_aload_n C 0 dX12_element_110 rfl rfl ?_
                refine r_getR C (b := (ma mb 22)) fl_X12_55 rfl hm.k (hm.r 22 rfl) dX12_element_111 ?_
                refine r_bipush C (v := nI 10) dX12_element_114 (by decide) ?_
                refine r_iload_n C 1 dX12_element_116 rfl rfl ?_
                refine r_imulN C dX12_element_117 ?_
                refine r_iload C 3 dX12_element_118 rfl ?_
                refine r_iaddN C dX12_element_120 ?_
                refine r_aload_n C 0 dX12_element_121 rfl rfl ?_
                refine r_getR C (b := (ma mb 22)) fl_X12_55 rfl hm.k (hm.r 22 rfl) dX12_element_122 ?_
                refine r_bipush C (v := nI 60) dX12_element_125 (by decide) ?_
                refine r_iload C 3 dX12_element_127 rfl ?_
                refine r_iaddN C dX12_element_129 ?_
                refine r_ialoadN C (hm.i 22 20 rfl) (hm.n 22 70 rfl) (by omega) (by omega) dX12_element_130 ?_
                refine V.ei (y := τ.1 22 (60 + k)) ((ht.i 22 rfl _).trans (cpS_o τ c k 22 _ (by omega))) ?_
                refine r_iastoreN C (hm.i 22 20 rfl) (hm.n 22 70 rfl) (by omega) (by omega) dX12_element_131 ?_
                have htb := ((fOut.rf [22] mb _).setI 22 (10 * c + k) (τ.1 22 (60 + k)) rfl).tb rfl htb
                have hlb : LTB (wI M1 (ma mb 22) (10 * c + k) (τ.1 22 (60 + k))) mb := hlb.wi 22 _ _ rfl
                have hfo := hfo.setI 22 (10 * c + k) (τ.1 22 (60 + k)) rfl
                have h67 : mI (wI M1 (ma mb 22) (10 * c + k) (τ.1 22 (60 + k))) mb 67 = _ := (up2_a _ _ (ma_0 rfl).symm).trans h67
                have ht := ht.ui 22 (10 * c + k) (τ.1 22 (60 + k)) rfl
                refine r_aload_n C 0 dX12_element_132 rfl rfl ?_
                refine r_getR C (b := (ma mb 23)) fl_X12_58 rfl hm.k (hm.r 23 rfl) dX12_element_133 ?_
                refine r_bipush C (v := nI 10) dX12_element_136 (by decide) ?_
                refine r_iload_n C 1 dX12_element_138 rfl rfl ?_
                refine r_imulN C dX12_element_139 ?_
                refine r_iload C 3 dX12_element_140 rfl ?_
                refine r_iaddN C dX12_element_142 ?_
                refine r_aload_n C 0 dX12_element_143 rfl rfl ?_
                refine r_getR C (b := (ma mb 23)) fl_X12_58 rfl hm.k (hm.r 23 rfl) dX12_element_144 ?_
                refine r_bipush C (v := nI 60) dX12_element_147 (by decide) ?_
                refine r_iload C 3 dX12_element_149 rfl ?_
                refine r_iaddN C dX12_element_151 ?_
                refine r_ialoadN C (hm.i 23 20 rfl) (hm.n 23 70 rfl) (by omega) (by omega) dX12_element_152 ?_
                refine V.ei (y := τ.1 23 (60 + k)) (by refine (ht.i 23 rfl _).trans ?_; exact (cpS_o τ c k 23 _ (by omega))) ?_
                refine r_iastoreN C (hm.i 23 20 rfl) (hm.n 23 70 rfl) (by omega) (by omega) dX12_element_153 ?_
                have htb := ((fOut.rf [23] mb _).setI 23 (10 * c + k) (τ.1 23 (60 + k)) rfl).tb rfl htb
                have hlb : LTB (wI (wI M1 (ma mb 22) (10 * c + k) (τ.1 22 (60 + k))) (ma mb 23) (10 * c + k) (τ.1 23 (60 + k))) mb := hlb.wi 23 _ _ rfl
                have hfo := hfo.setI 23 (10 * c + k) (τ.1 23 (60 + k)) rfl
                have h67 : mI (wI (wI M1 (ma mb 22) (10 * c + k) (τ.1 22 (60 + k))) (ma mb 23) (10 * c + k) (τ.1 23 (60 + k))) mb 67 = _ := (up2_a _ _ (ma_0 rfl).symm).trans h67
                have ht := ht.ui 23 (10 * c + k) (τ.1 23 (60 + k)) rfl
                refine r_iinc C (v := nI (k + 1)) (lo' := [(5, .int (nI (k + 1))), (0, .ref mb), (1, .int (nI c)), (2, .int (nI d))]) 3 dX12_element_154 rfl (nI_addI k 1) (by decide) rfl ?_
                refine r_goto C (t := 103) dX12_element_157 (by decide) ?_
                refine V.sub [1, 2, 3, 0] (lo' := [(0, .ref mb), (1, .int (nI c)), (2, .int (nI d)), (5, .int (nI (k + 1)))]) rfl ?_
                exact ih103 (wI (wI M1 (ma mb 22) (10 * c + k) (τ.1 22 (60 + k))) (ma mb 23) (10 * c + k) (τ.1 23 (60 + k))) (k + 1) (by omega) hfo ((congrArg (TE _ _ mb) (cpS_s τ c k)).mp ht) htb hm h67 hlb (by omega)
          refine V.sub [3, 4, 5, 0] (lo' := [(0, .ref mb), (1, .int (nI c)), (2, .int (nI d)), (5, .int (nI 0))]) rfl ?_
          exact lp103 _ (wI M mb 67 (nI (cd3 (inB x (lN 0) (lN (un τ 26 26)) && decide (x < nI 6)) (inB y (lN 0) (lN 63)) (elB τ x)))) 0 (Nat.zero_le _) hfo (by rw [cpS_0]; exact ht) htb hm h67 hlb (Nat.lt_succ_self _)
        · skip
          have c95d := of_decide_eq_true c95
          have hC : (cd3 (inB x (lN 0) (lN (un τ 26 26)) && decide (x < nI 6)) (inB y (lN 0) (lN 63)) (elB τ x)) ≠ 0 := c95d
          refine r_iconst C (v := (-1)) dX12_element_98 (by decide) ?_
          exact r_iret C hr (⟨h67, hfo.mo, hlb, fun _ => ⟨ht, htb⟩, fun q => absurd q hC, by first | exact KD.i | exact KD.l | exact KD.n⟩) (by first | exact Nat.zero_le _ | decide) (by first | exact Nat.zero_le _ | decide) dX12_element_99
      refine r_iload_n C 1 dX12_element_57 rfl rfl ?_
      refine r_if_neB C (t := 65) dX12_element_58 (by decide) (fun c58 => ?_) (fun c58 => ?_)
      · skip
        refine r_aload_n C 2 dX12_element_65 rfl rfl ?_
        refine r_iload_n C 4 dX12_element_66 rfl rfl ?_
        refine r_i2l C dX12_element_67 ?_
        refine r_lconst C (v := lN 0) dX12_element_68 (by decide) ?_
        refine r_ldc2 C (v := 63) kl_X12_322 dX12_element_69 ?_
        refine V.el (y := lN 63) (by decide) ?_
        refine r_callV C hgX (ci := 14) ml_X12_191 im_X12_in se_X12_in rfl rfl hm.k (c_X12_in l hfl G M mb y.toInt64 (lN 0) (lN 63)) rfl (Nat.le_of_ble_eq_true rfl) ⟨Nat.le_of_ble_eq_true rfl, Nat.le_of_ble_eq_true rfl⟩ ⟨Nat.le_of_ble_eq_true rfl, Nat.le_of_ble_eq_true rfl⟩ dX12_element_72 rfl ?_
        rintro _ _ ⟨rfl, rfl⟩
        refine V.eSt (st' := [.int (bI (decide ((lN 0) ≤ y.toInt64 ∧ y.toInt64 ≤ (lN 63)))), .ref mb]) rfl ?_
        refine V.ei (y := bI (inB y (lN 0) (lN 63))) rfl ?_
        refine r_if_neB C (t := 82) dX12_element_75 (by decide) (fun c75 => ?_) (fun c75 => ?_)
        · skip
          refine r_iload C 0 dX12_element_82 rfl ?_
          refine r_if_eqB C (t := 91) dX12_element_84 (by decide) (fun c84 => ?_) (fun c84 => ?_)
          · skip
            have b9 : elB τ x = true := by have q := c84; rw [c58] at q; simpa using q
            refine r_iconst C (v := nI 0) dX12_element_91 (by decide) ?_
            refine V.ei (y := nI (cd3 (inB x (lN 0) (lN (un τ 26 26)) && decide (x < nI 6)) (inB y (lN 0) (lN 63)) (elB τ x))) (congrArg nI (by simp only [c58, c75, b9] <;> rfl)) ?_
            exact jn92
          · skip
            have b9 : elB τ x = false := by have q := c84; rw [c58] at q; simpa using q
            refine r_iconst C (v := nI 3) dX12_element_87 (by decide) ?_
            refine r_goto C (t := 92) dX12_element_88 (by decide) ?_
            refine V.ei (y := nI (cd3 (inB x (lN 0) (lN (un τ 26 26)) && decide (x < nI 6)) (inB y (lN 0) (lN 63)) (elB τ x))) (congrArg nI (by simp only [c58, c75, b9] <;> rfl)) ?_
            exact jn92
        · skip
          refine r_iconst C (v := nI 2) dX12_element_78 (by decide) ?_
          refine r_goto C (t := 92) dX12_element_79 (by decide) ?_
          refine V.ei (y := nI (cd3 (inB x (lN 0) (lN (un τ 26 26)) && decide (x < nI 6)) (inB y (lN 0) (lN 63)) (elB τ x))) (congrArg nI (by simp only [c58, c75] <;> rfl)) ?_
          exact jn92
      · skip
        refine r_iconst C (v := nI 1) dX12_element_61 (by decide) ?_
        refine r_goto C (t := 92) dX12_element_62 (by decide) ?_
        refine V.ei (y := nI (cd3 (inB x (lN 0) (lN (un τ 26 26)) && decide (x < nI 6)) (inB y (lN 0) (lN 63)) (elB τ x))) (congrArg nI (by simp only [c58] <;> rfl)) ?_
        exact jn92
    refine r_iload_n C 0 dX12_element_27 rfl rfl ?_
    refine r_if_eqB C (t := 53) dX12_element_28 (by decide) (fun c28 => ?_) (fun c28 => ?_)
    · skip
      refine r_iconst C (v := nI 0) dX12_element_53 (by decide) ?_
      refine V.eSt (st' := [.int (bI false)]) rfl ?_
      refine V.ei (y := bI ((inB x (lN 0) (lN (un τ 26 26)) && decide (x < nI 6)) && !(elB τ x))) (congrArg bI (by simp only [c28] <;> rfl)) ?_
      exact jn54
    · skip
      obtain ⟨hx1, hx2⟩ := Bool.and_eq_true_iff.mp c28
      obtain ⟨c, hc0, hcn, e_x⟩ := inB_N (by decide) (by omega) hx1
      have hc6 : c < 6 := by have q := of_decide_eq_true hx2; rw [e_x] at q; exact (nI_ltI (by omega) (by decide)).mp q
      have hcx : x.toNatClampNeg = c := by rw [e_x, nI_clamp (by omega)]
      refine r_aload_n C 1 dX12_element_31 rfl rfl ?_
      refine r_bipush C (v := nI 6) dX12_element_32 (by decide) ?_
      refine r_callV C hgX (ci := 14) ml_X12_309 im_X12_depth se_X12_depth rfl rfl hm.k (c_X12_depth l hfl G M mb τ hm ht hw 6 (by omega) (hw.dr)) rfl (Nat.le_of_ble_eq_true rfl) ⟨Nat.le_of_ble_eq_true rfl, Nat.le_of_ble_eq_true rfl⟩ ⟨Nat.le_of_ble_eq_true rfl, Nat.le_of_ble_eq_true rfl⟩ dX12_element_34 rfl ?_
      rintro _ _ ⟨rfl, rfl⟩
      refine V.eSt (st' := [.int (nI (fmD τ 6 (un τ 24 6)))]) rfl ?_
      have hfd := fmD_le τ 6 (un τ 24 6)
      have helq := (hw.el 6 (by omega)).2
      refine r_iconst C (v := nI 1) dX12_element_37 (by decide) ?_
      refine r_icmp_neN C (t := 49) (by omega) (by omega) dX12_element_38 (by decide) (fun c38 => ?_) (fun c38 => ?_)
      · skip
        refine r_iconst C (v := nI 1) dX12_element_49 (by decide) ?_
        refine r_goto C (t := 54) dX12_element_50 (by decide) ?_
        refine V.eSt (st' := [.int (bI true)]) rfl ?_
        refine V.ei (y := bI ((inB x (lN 0) (lN (un τ 26 26)) && decide (x < nI 6)) && !(elB τ x))) (congrArg bI (by simp only [c28, elB, show decide (fmD τ 6 (un τ 24 6) = 1) = false from decide_eq_false c38] <;> rfl)) ?_
        exact jn54
      · skip
        refine r_aload_n C 1 dX12_element_41 rfl rfl ?_
        refine r_iload_n C 2 dX12_element_42 rfl rfl ?_
        refine V.ei (y := nI c) e_x ?_
        refine r_callV C hgX (ci := 14) ml_X12_319 im_X12_rings se_X12_rings rfl rfl hm.k (c_X12_rings l hfl G M mb τ hm ht hw c (by omega)) rfl (Nat.le_of_ble_eq_true rfl) ⟨Nat.le_of_ble_eq_true rfl, Nat.le_of_ble_eq_true rfl⟩ ⟨Nat.le_of_ble_eq_true rfl, Nat.le_of_ble_eq_true rfl⟩ dX12_element_43 rfl ?_
        rintro _ _ ⟨rfl, rfl⟩
        refine V.eSt (st' := [.int (bI ((rgR τ c 7).testBit c))]) rfl ?_
        refine r_if_eqB C (t := 53) dX12_element_46 (by decide) (fun c46 => ?_) (fun c46 => ?_)
        · skip
          refine r_iconst C (v := nI 0) dX12_element_53 (by decide) ?_
          refine V.eSt (st' := [.int (bI false)]) rfl ?_
          refine V.ei (y := bI ((inB x (lN 0) (lN (un τ 26 26)) && decide (x < nI 6)) && !(elB τ x))) (congrArg bI (by simp only [c28, elB, show decide (fmD τ 6 (un τ 24 6) = 1) = true from decide_eq_true c38, hcx, c46] <;> rfl)) ?_
          exact jn54
        · skip
          refine r_iconst C (v := nI 1) dX12_element_49 (by decide) ?_
          refine r_goto C (t := 54) dX12_element_50 (by decide) ?_
          refine V.eSt (st' := [.int (bI true)]) rfl ?_
          refine V.ei (y := bI ((inB x (lN 0) (lN (un τ 26 26)) && decide (x < nI 6)) && !(elB τ x))) (congrArg bI (by simp only [c28, elB, show decide (fmD τ 6 (un τ 24 6) = 1) = true from decide_eq_true c38, hcx, c46] <;> rfl)) ?_
          exact jn54
  refine r_aload_n C 0 dX12_element_0 rfl rfl ?_
  refine r_iload_n C 1 dX12_element_1 rfl rfl ?_
  refine r_i2l C dX12_element_2 ?_
  refine r_lconst C (v := lN 0) dX12_element_3 (by decide) ?_
  refine r_aload_n C 0 dX12_element_4 rfl rfl ?_
  refine r_getI C fl_X12_316 rfl hm.k dX12_element_5 ?_
  refine V.ei (y := nI (un τ 26 26)) ((ht.s 26 rfl).trans hw.ne.1) ?_
  refine r_i2lN C (by omega) dX12_element_8 ?_
  refine r_callV C hgX (ci := 14) ml_X12_191 im_X12_in se_X12_in rfl rfl hm.k (c_X12_in l hfl G M mb x.toInt64 (lN 0) (lN (un τ 26 26))) rfl (Nat.le_of_ble_eq_true rfl) ⟨Nat.le_of_ble_eq_true rfl, Nat.le_of_ble_eq_true rfl⟩ ⟨Nat.le_of_ble_eq_true rfl, Nat.le_of_ble_eq_true rfl⟩ dX12_element_9 rfl ?_
  rintro _ _ ⟨rfl, rfl⟩
  refine V.eSt (st' := [.int (bI (decide ((lN 0) ≤ x.toInt64 ∧ x.toInt64 ≤ (lN (un τ 26 26)))))]) rfl ?_
  refine V.ei (y := bI (inB x (lN 0) (lN (un τ 26 26)))) rfl ?_
  refine r_if_eqB C (t := 25) dX12_element_12 (by decide) (fun c12 => ?_) (fun c12 => ?_)
  · skip
    refine r_iconst C (v := nI 0) dX12_element_25 (by decide) ?_
    refine V.eSt (st' := [.int (bI false)]) rfl ?_
    refine V.ei (y := bI (inB x (lN 0) (lN (un τ 26 26)) && decide (x < nI 6))) (congrArg bI (by simp only [c12] <;> rfl)) ?_
    exact jn26
  · skip
    refine r_iload_n C 1 dX12_element_15 rfl rfl ?_
    refine r_bipush C (v := nI 6) dX12_element_16 (by decide) ?_
    refine r_icmp_ge C (t := 25) dX12_element_18 (by decide) (fun c18 => ?_) (fun c18 => ?_)
    · skip
      refine r_iconst C (v := nI 0) dX12_element_25 (by decide) ?_
      refine V.eSt (st' := [.int (bI false)]) rfl ?_
      refine V.ei (y := bI (inB x (lN 0) (lN (un τ 26 26)) && decide (x < nI 6))) (congrArg bI (by simp only [c12, decide_eq_false (Int32.not_lt.mpr c18)] <;> rfl)) ?_
      exact jn26
    · skip
      refine r_iconst C (v := nI 1) dX12_element_21 (by decide) ?_
      refine r_goto C (t := 26) dX12_element_22 (by decide) ?_
      refine V.eSt (st' := [.int (bI true)]) rfl ?_
      refine V.ei (y := bI (inB x (lN 0) (lN (un τ 26 26)) && decide (x < nI 6))) (congrArg bI (by simp only [c12, decide_eq_true (Int32.not_le.mp c18)] <;> rfl)) ?_
      exact jn26
