set_option maxHeartbeats 4000000 in
set_option maxRecDepth 100000 in
theorem c_X12_grossFor (l : Launch) (hfl : l.flags = flags0) (G : gW) (M : Mem) (mb : Nat) (τ : Mu) (hm : MOK (mK M) (mN M) (mR M) mb) (ht : TE (mI M) (mL M) mb τ) (hw : WF τ) (htb : TEb (mI M) (mL M) mb τ) (hlb : LTB M mb) (x y z w : Int32) (hbo : BO τ) : CT l yX12_grossFor cX12_grossFor 12 (some .int) 6 0 0 164 G M [.ref mb, .int x, .int y, .int z, .int w] (fun v M' => PP mb M τ (cd2 (rng x 6 && rng y 24 && rng z 3) (inB w (lN 1) (lN 1000000))) (τ) (some (.int (gfO τ (72 * x.toNatClampNeg + 3 * y.toNatClampNeg + z.toNatClampNeg) x.toNatClampNeg y.toNatClampNeg (ntL τ x.toNatClampNeg y.toNatClampNeg + lN w.toNatClampNeg)))) v M') := by
  refine CT.of hfl rfl (Nat.le_of_ble_eq_true rfl) ?_
  intro pp ee ss mm ar bw mt cd C hgX hr hini
  have hnc := hw.nc.2
  have hsh := hw.sh.2
  have hnl := hw.nl.2
  have hne := hw.ne.2
  have hng := hw.ng.2
  have hop := hw.op.2
  have hnp := hw.np.2
  have ht0 := ht
  have hm0 := hm
  have htb0 := htb
  have hfo := fOut.rf [67, 30, 16, 21, 28, 29, 55, 56, 57, 58, 59, 60, 61, 62, 63, 64, 65, 66] mb M
  refine V.eLo (lo' := [(0, .ref mb), (1, .int x), (2, .int y), (3, .int z), (4, .int w)]) rfl ?_
  have jn29 : V pp l ee ({ frames := 6, cells := 0, slots := 0, locals := 164 } : Room) ss mm ar bw mt cd G (MQ bw (Ke G (fun v M' => PP mb M τ (cd2 (rng x 6 && rng y 24 && rng z 3) (inB w (lN 1) (lN 1000000))) (τ) (some (.int (gfO τ (72 * x.toNatClampNeg + 3 * y.toNatClampNeg + z.toNatClampNeg) x.toNatClampNeg y.toNatClampNeg (ntL τ x.toNatClampNeg y.toNatClampNeg + lN w.toNatClampNeg)))) v M')) ar ss 0 0 (gA G)) 12 M 0 0 29 [(0, .ref mb), (1, .int x), (2, .int y), (3, .int z), (4, .int w)] [.int (bI (rng x 6 && rng y 24 && rng z 3))] := by
    skip
    refine r_istore C (lo' := [(5, .int (bI (rng x 6 && rng y 24 && rng z 3))), (0, .ref mb), (1, .int x), (2, .int y), (3, .int z), (4, .int w)]) dX12_grossFor_29 (by decide) rfl ?_
    refine r_aload_n C 1 dX12_grossFor_31 rfl rfl ?_
    have jn60 : V pp l ee ({ frames := 6, cells := 0, slots := 0, locals := 164 } : Room) ss mm ar bw mt cd G (MQ bw (Ke G (fun v M' => PP mb M τ (cd2 (rng x 6 && rng y 24 && rng z 3) (inB w (lN 1) (lN 1000000))) (τ) (some (.int (gfO τ (72 * x.toNatClampNeg + 3 * y.toNatClampNeg + z.toNatClampNeg) x.toNatClampNeg y.toNatClampNeg (ntL τ x.toNatClampNeg y.toNatClampNeg + lN w.toNatClampNeg)))) v M')) ar ss 0 0 (gA G)) 12 M 0 0 60 [(5, .int (bI (rng x 6 && rng y 24 && rng z 3))), (0, .ref mb), (1, .int x), (2, .int y), (3, .int z), (4, .int w)] [.int (nI (cd2 (rng x 6 && rng y 24 && rng z 3) (inB w (lN 1) (lN 1000000)))), .ref mb] := by
      skip
      refine r_callV C hgX (ci := 14) ml_X12_227 im_X12_holds se_X12_holds rfl rfl hm.k (c_X12_holds l hfl G M mb hm (nI (cd2 (rng x 6 && rng y 24 && rng z 3) (inB w (lN 1) (lN 1000000))))) rfl (Nat.le_of_ble_eq_true rfl) ⟨Nat.le_of_ble_eq_true rfl, Nat.le_of_ble_eq_true rfl⟩ ⟨Nat.le_of_ble_eq_true rfl, Nat.le_of_ble_eq_true rfl⟩ dX12_grossFor_60 rfl ?_
      rintro _ _ ⟨rfl, rfl⟩
      refine V.eSt (st' := [.int (bI (decide (0 < nI (cd2 (rng x 6 && rng y 24 && rng z 3) (inB w (lN 1) (lN 1000000))))))]) rfl ?_
      refine V.ei (y := bI (decide ((cd2 (rng x 6 && rng y 24 && rng z 3) (inB w (lN 1) (lN 1000000))) ≠ 0))) (congrArg bI (hold_d (cd2_le _ _))) ?_
      have hfo := hfo.set0 67 (nI (cd2 (rng x 6 && rng y 24 && rng z 3) (inB w (lN 1) (lN 1000000)))) rfl
      have ht := ht.ws 67 (nI (cd2 (rng x 6 && rng y 24 && rng z 3) (inB w (lN 1) (lN 1000000)))) rfl rfl
      have htb := ((fOut.rf [67] mb _).set0 67 (nI (cd2 (rng x 6 && rng y 24 && rng z 3) (inB w (lN 1) (lN 1000000)))) rfl).tb rfl htb
      have h67 : mI (wI M mb 67 (nI (cd2 (rng x 6 && rng y 24 && rng z 3) (inB w (lN 1) (lN 1000000))))) mb 67 = nI (cd2 (rng x 6 && rng y 24 && rng z 3) (inB w (lN 1) (lN 1000000))) := up2_same _ _ _ _
      have hlb : LTB (wI M mb 67 (nI (cd2 (rng x 6 && rng y 24 && rng z 3) (inB w (lN 1) (lN 1000000))))) mb := hlb.ws 67 _
      refine r_if_eqB C (t := 68) dX12_grossFor_63 (by decide) (fun c63 => ?_) (fun c63 => ?_)
      · skip
        have c63d := of_decide_eq_false c63
        have hC : (cd2 (rng x 6 && rng y 24 && rng z 3) (inB w (lN 1) (lN 1000000))) = 0 := by have := c63d; omega
        obtain ⟨h1, h2⟩ := cd2_0 hC
        obtain ⟨hxy, hz⟩ := Bool.and_eq_true_iff.mp h1
        obtain ⟨hx, hy⟩ := Bool.and_eq_true_iff.mp hxy
        obtain ⟨c, hc, e_x⟩ := rng_t hx
        obtain ⟨d, hd, e_y⟩ := rng_t hy
        obtain ⟨e, he, e_z⟩ := rng_t hz
        obtain ⟨n, hn1, hn6, e_w⟩ := inB_N (by decide) (by decide) h2
        refine V.eLo (lo' := [(5, .int (bI (rng x 6 && rng y 24 && rng z 3))), (0, .ref mb), (1, .int (nI c)), (2, .int (nI d)), (3, .int (nI e)), (4, .int (nI n))]) (by rw [e_x, e_y, e_z, e_w]) ?_
        refine r_aload_n C 1 dX12_grossFor_68 rfl rfl ?_
        refine r_iload_n C 2 dX12_grossFor_69 rfl rfl ?_
        refine r_callV C hgX (ci := 14) ml_X12_389 im_X12_slips se_X12_slips rfl rfl (show mK (wI M mb 67 (nI (cd2 (rng x 6 && rng y 24 && rng z 3) (inB w (lN 1) (lN 1000000))))) mb = 14 + 1 from hm.k) (c_X12_slips l hfl G (wI M mb 67 (nI (cd2 (rng x 6 && rng y 24 && rng z 3) (inB w (lN 1) (lN 1000000))))) mb τ hm ht hw c (by omega) (hlb)) rfl (Nat.le_of_ble_eq_true rfl) ⟨Nat.le_of_ble_eq_true rfl, Nat.le_of_ble_eq_true rfl⟩ ⟨Nat.le_of_ble_eq_true rfl, Nat.le_of_ble_eq_true rfl⟩ dX12_grossFor_70 rfl ?_
        rintro _ My1 ⟨rfl, hfo1, hbk1, hlb1⟩
        have hm := hfo1.ok hm
        have ht := hfo1.te rfl ht
        have htb := hfo1.tb rfl htb
        have h67 := (hfo1.s 67 rfl).trans h67
        have hfo := hfo.tr (hfo1.mono rfl)
        have hlb := hlb1
        have hbk := hbk1
        refine r_aload_n C 1 dX12_grossFor_73 rfl rfl ?_
        refine r_getR C (b := (ma mb 62)) fl_X12_164 rfl hm.k (hm.r 62 rfl) dX12_grossFor_74 ?_
        refine r_iload_n C 3 dX12_grossFor_77 rfl rfl ?_
        refine r_laloadN C (hm.i 62 21 rfl) (hm.n 62 24 rfl) (by omega) (by omega) dX12_grossFor_78 ?_
        refine V.el (y := ntL τ c d) ((hbk d hd).2.1.2.2.1) ?_
        refine r_iload C 5 dX12_grossFor_79 rfl ?_
        refine r_i2lN C (by omega) dX12_grossFor_81 ?_
        refine r_ladd C dX12_grossFor_82 ?_
        refine r_lstore C (lo' := [(6, .long ((ntL τ c d) + (lN n))), (5, .int (bI (rng x 6 && rng y 24 && rng z 3))), (0, .ref mb), (1, .int (nI c)), (2, .int (nI d)), (3, .int (nI e)), (4, .int (nI n))]) dX12_grossFor_83 (by decide) rfl ?_
        refine r_bipush C (v := nI 72) dX12_grossFor_85 (by decide) ?_
        refine r_iload_n C 3 dX12_grossFor_87 rfl rfl ?_
        refine r_imulN C dX12_grossFor_88 ?_
        refine r_iconst C (v := nI 3) dX12_grossFor_89 (by decide) ?_
        refine r_iload_n C 4 dX12_grossFor_90 rfl rfl ?_
        refine r_imulN C dX12_grossFor_91 ?_
        refine r_iaddN C dX12_grossFor_92 ?_
        refine r_iload_n C 5 dX12_grossFor_93 rfl rfl ?_
        refine r_iaddN C dX12_grossFor_94 ?_
        refine r_istore C (lo' := [(8, .int (nI (72 * c + 3 * d + e))), (6, .long ((ntL τ c d) + (lN n))), (5, .int (bI (rng x 6 && rng y 24 && rng z 3))), (0, .ref mb), (1, .int (nI c)), (2, .int (nI d)), (3, .int (nI e)), (4, .int (nI n))]) dX12_grossFor_95 (by decide) rfl ?_
        refine r_aload_n C 3 dX12_grossFor_97 rfl rfl ?_
        refine r_getR C (b := (ma mb 30)) fl_X12_77 rfl hm.k (hm.r 30 rfl) dX12_grossFor_98 ?_
        refine r_iload C 0 dX12_grossFor_101 rfl ?_
        refine r_ialoadN C (hm.i 30 20 rfl) (hm.n 30 432 rfl) (by omega) (by omega) dX12_grossFor_103 ?_
        refine V.ei (y := τ.1 30 (72 * c + 3 * d + e)) (ht.i 30 rfl _) ?_
        refine r_istore C (lo' := [(9, .int (τ.1 30 (72 * c + 3 * d + e))), (8, .int (nI (72 * c + 3 * d + e))), (6, .long ((ntL τ c d) + (lN n))), (5, .int (bI (rng x 6 && rng y 24 && rng z 3))), (0, .ref mb), (1, .int (nI c)), (2, .int (nI d)), (3, .int (nI e)), (4, .int (nI n))]) dX12_grossFor_104 (by decide) rfl ?_
        refine r_iconst C (v := (-1)) dX12_grossFor_106 (by decide) ?_
        refine r_istore C (lo' := [(10, .int (-1)), (9, .int (τ.1 30 (72 * c + 3 * d + e))), (8, .int (nI (72 * c + 3 * d + e))), (6, .long ((ntL τ c d) + (lN n))), (5, .int (bI (rng x 6 && rng y 24 && rng z 3))), (0, .ref mb), (1, .int (nI c)), (2, .int (nI d)), (3, .int (nI e)), (4, .int (nI n))]) dX12_grossFor_107 (by decide) rfl ?_
        refine r_iconst C (v := nI 1) dX12_grossFor_109 (by decide) ?_
        refine r_istore C (lo' := [(11, .int (nI 1)), (10, .int (-1)), (9, .int (τ.1 30 (72 * c + 3 * d + e))), (8, .int (nI (72 * c + 3 * d + e))), (6, .long ((ntL τ c d) + (lN n))), (5, .int (bI (rng x 6 && rng y 24 && rng z 3))), (0, .ref mb), (1, .int (nI c)), (2, .int (nI d)), (3, .int (nI e)), (4, .int (nI n))]) dX12_grossFor_110 (by decide) rfl ?_
        have lp112 : ∀ (k112 : Nat) (M1 : Mem) (σ : Mu) (j : Nat) (xx : Int32) (hj : j ≤ 200) (ht : TE (mI M1) (mL M1) mb σ) (htb : TEb (mI M1) (mL M1) mb τ) (hfo : fOut [67, 30, 16, 21, 28, 29, 55, 56, 57, 58, 59, 60, 61, 62, 63, 64, 65, 66] mb M M1) (hm : MOK (mK M1) (mN M1) (mR M1) mb) (h67 : mI M1 mb 67 = nI (cd2 (rng x 6 && rng y 24 && rng z 3) (inB w (lN 1) (lN 1000000)))) (hlb : LTB M1 mb) (hof : offB τ σ (72 * c + 3 * d + e)) (hx : gfX τ (72 * c + 3 * d + e) c d (ntL τ c d + lN n) j xx), 201 - j < k112 → V pp l ee ({ frames := 6, cells := 0, slots := 0, locals := 164 } : Room) ss mm ar bw mt cd G (MQ bw (Ke G (fun v M' => PP mb M τ (cd2 (rng x 6 && rng y 24 && rng z 3) (inB w (lN 1) (lN 1000000))) (τ) (some (.int (gfO τ (72 * x.toNatClampNeg + 3 * y.toNatClampNeg + z.toNatClampNeg) x.toNatClampNeg y.toNatClampNeg (ntL τ x.toNatClampNeg y.toNatClampNeg + lN w.toNatClampNeg)))) v M')) ar ss 0 0 (gA G)) 12 M1 0 0 112 [(0, .ref mb), (1, .int (nI c)), (2, .int (nI d)), (6, .long (ntL τ c d + lN n)), (8, .int (nI (72 * c + 3 * d + e))), (9, .int (τ.1 30 (72 * c + 3 * d + e))), (10, .int xx), (11, .int (nI (j + 1)))] [] := by
          intro k112
          induction k112 with
          | zero => intro M1 σ j xx hj ht htb hfo hm h67 hlb hof hx hz112; exact absurd hz112 (Nat.not_lt_zero _)
          | succ k112 ih112 =>
            intro M1 σ j xx hj ht htb hfo hm h67 hlb hof hx hz112
            refine r_iload C 7 dX12_grossFor_112 rfl ?_
            refine r_sipush C (v := nI 200) dX12_grossFor_114 (by decide) ?_
            refine r_icmp_gtN C (t := 176) (by omega) (by omega) dX12_grossFor_117 (by decide) (fun c117 => ?_) (fun c117 => ?_)
            · skip
              have hres := gfX_end hx hj (.inl (by omega))
              refine r_aload_n C 0 dX12_grossFor_176 rfl rfl ?_
              refine r_getR C (b := (ma mb 30)) fl_X12_77 rfl hm.k (hm.r 30 rfl) dX12_grossFor_177 ?_
              refine r_iload C 4 dX12_grossFor_180 rfl ?_
              refine r_iload C 5 dX12_grossFor_182 rfl ?_
              refine r_iastoreN C (hm.i 30 20 rfl) (hm.n 30 432 rfl) (by omega) (by omega) dX12_grossFor_184 ?_
              have htb := ((fOut.rf [30] mb _).setI 30 (72 * c + 3 * d + e) (τ.1 30 (72 * c + 3 * d + e)) rfl).tb rfl htb
              have hlb : LTB (wI M1 (ma mb 30) (72 * c + 3 * d + e) (τ.1 30 (72 * c + 3 * d + e))) mb := hlb.wi 30 _ _ rfl
              have hfo := hfo.setI 30 (72 * c + 3 * d + e) (τ.1 30 (72 * c + 3 * d + e)) rfl
              have h67 : mI (wI M1 (ma mb 30) (72 * c + 3 * d + e) (τ.1 30 (72 * c + 3 * d + e))) mb 67 = _ := (up2_a _ _ (ma_0 rfl).symm).trans h67
              have ht := ht.ui 30 (72 * c + 3 * d + e) (τ.1 30 (72 * c + 3 * d + e)) rfl
              have ht : TE (mI (wI M1 (ma mb 30) (72 * c + 3 * d + e) (τ.1 30 (72 * c + 3 * d + e)))) (mL (wI M1 (ma mb 30) (72 * c + 3 * d + e) (τ.1 30 (72 * c + 3 * d + e)))) mb τ := (congrArg (TE (mI (wI M1 (ma mb 30) (72 * c + 3 * d + e) (τ.1 30 (72 * c + 3 * d + e)))) (mL (wI M1 (ma mb 30) (72 * c + 3 * d + e) (τ.1 30 (72 * c + 3 * d + e)))) mb) ((hof.set (τ.1 30 (72 * c + 3 * d + e))).trans (sI_back τ (72 * c + 3 * d + e)))).mp ht
              refine r_iload C 6 dX12_grossFor_185 rfl ?_
              exact r_iret C hr (⟨h67, hfo.mo, hlb, fun q => absurd hC q, fun _ => ⟨by rw [hres, e_x, e_y, e_z, e_w, nI_clamp (n := c) (by omega), nI_clamp (n := d) (by omega), nI_clamp (n := e) (by omega), nI_clamp (n := n) (by omega)], ht, htb.cg rfl rfl (fun _ => ⟨rfl, rfl⟩) (fun _ => ⟨rfl, rfl⟩) (fun _ => ⟨rfl, rfl⟩) (fun _ => ⟨rfl, rfl⟩) (fun _ => ⟨rfl, rfl⟩) (fun _ => ⟨rfl, rfl⟩) (fun _ => ⟨rfl, rfl⟩) ⟩, by first | exact KD.i | exact KD.l | exact KD.n⟩) (by first | exact Nat.zero_le _ | decide) (by first | exact Nat.zero_le _ | decide) dX12_grossFor_187
            · skip
              have hj2 : j < 200 := by omega
              refine r_iload C 6 dX12_grossFor_120 rfl ?_
              refine r_if_ge C (t := 176) dX12_grossFor_122 (by decide) (fun c122 => ?_) (fun c122 => ?_)
              · skip
                have hres := gfX_end hx hj (.inr c122)
                refine r_aload_n C 0 dX12_grossFor_176 rfl rfl ?_
                refine r_getR C (b := (ma mb 30)) fl_X12_77 rfl hm.k (hm.r 30 rfl) dX12_grossFor_177 ?_
                refine r_iload C 4 dX12_grossFor_180 rfl ?_
                refine r_iload C 5 dX12_grossFor_182 rfl ?_
                refine r_iastoreN C (hm.i 30 20 rfl) (hm.n 30 432 rfl) (by omega) (by omega) dX12_grossFor_184 ?_
                have htb := ((fOut.rf [30] mb _).setI 30 (72 * c + 3 * d + e) (τ.1 30 (72 * c + 3 * d + e)) rfl).tb rfl htb
                have hlb : LTB (wI M1 (ma mb 30) (72 * c + 3 * d + e) (τ.1 30 (72 * c + 3 * d + e))) mb := hlb.wi 30 _ _ rfl
                have hfo := hfo.setI 30 (72 * c + 3 * d + e) (τ.1 30 (72 * c + 3 * d + e)) rfl
                have h67 : mI (wI M1 (ma mb 30) (72 * c + 3 * d + e) (τ.1 30 (72 * c + 3 * d + e))) mb 67 = _ := (up2_a _ _ (ma_0 rfl).symm).trans h67
                have ht := ht.ui 30 (72 * c + 3 * d + e) (τ.1 30 (72 * c + 3 * d + e)) rfl
                have ht : TE (mI (wI M1 (ma mb 30) (72 * c + 3 * d + e) (τ.1 30 (72 * c + 3 * d + e)))) (mL (wI M1 (ma mb 30) (72 * c + 3 * d + e) (τ.1 30 (72 * c + 3 * d + e)))) mb τ := (congrArg (TE (mI (wI M1 (ma mb 30) (72 * c + 3 * d + e) (τ.1 30 (72 * c + 3 * d + e)))) (mL (wI M1 (ma mb 30) (72 * c + 3 * d + e) (τ.1 30 (72 * c + 3 * d + e)))) mb) ((hof.set (τ.1 30 (72 * c + 3 * d + e))).trans (sI_back τ (72 * c + 3 * d + e)))).mp ht
                refine r_iload C 6 dX12_grossFor_185 rfl ?_
                exact r_iret C hr (⟨h67, hfo.mo, hlb, fun q => absurd hC q, fun _ => ⟨by rw [hres, e_x, e_y, e_z, e_w, nI_clamp (n := c) (by omega), nI_clamp (n := d) (by omega), nI_clamp (n := e) (by omega), nI_clamp (n := n) (by omega)], ht, htb.cg rfl rfl (fun _ => ⟨rfl, rfl⟩) (fun _ => ⟨rfl, rfl⟩) (fun _ => ⟨rfl, rfl⟩) (fun _ => ⟨rfl, rfl⟩) (fun _ => ⟨rfl, rfl⟩) (fun _ => ⟨rfl, rfl⟩) (fun _ => ⟨rfl, rfl⟩) ⟩, by first | exact KD.i | exact KD.l | exact KD.n⟩) (by first | exact Nat.zero_le _ | decide) (by first | exact Nat.zero_le _ | decide) dX12_grossFor_187
              · skip
                have hall : ∀ i, i < j → gfB τ (72 * c + 3 * d + e) c d (ntL τ c d + lN n) i = false := by
                  rcases hx with ⟨q1, q2⟩ | ⟨i, q1, q2, q3, q4⟩
                  · exact q2
                  · rw [q1] at c122; exact absurd (nI_pos' (by omega)) c122
                refine r_aload_n C 0 dX12_grossFor_125 rfl rfl ?_
                refine r_getR C (b := (ma mb 30)) fl_X12_77 rfl hm.k (hm.r 30 rfl) dX12_grossFor_126 ?_
                refine r_iload C 4 dX12_grossFor_129 rfl ?_
                refine r_iload C 5 dX12_grossFor_131 rfl ?_
                refine r_sipush C (v := nI 10000) dX12_grossFor_133 (by decide) ?_
                refine r_iload C 7 dX12_grossFor_136 rfl ?_
                refine r_imulN C dX12_grossFor_138 ?_
                refine r_iadd C dX12_grossFor_139 ?_
                refine r_iastoreN C (hm.i 30 20 rfl) (hm.n 30 432 rfl) (by omega) (by omega) dX12_grossFor_140 ?_
                have htb := ((fOut.rf [30] mb _).setI 30 (72 * c + 3 * d + e) ((τ.1 30 (72 * c + 3 * d + e)) + (nI (10000 * (j + 1)))) rfl).tb rfl htb
                have hlb : LTB (wI M1 (ma mb 30) (72 * c + 3 * d + e) ((τ.1 30 (72 * c + 3 * d + e)) + (nI (10000 * (j + 1))))) mb := hlb.wi 30 _ _ rfl
                have hfo := hfo.setI 30 (72 * c + 3 * d + e) ((τ.1 30 (72 * c + 3 * d + e)) + (nI (10000 * (j + 1)))) rfl
                have h67 : mI (wI M1 (ma mb 30) (72 * c + 3 * d + e) ((τ.1 30 (72 * c + 3 * d + e)) + (nI (10000 * (j + 1))))) mb 67 = _ := (up2_a _ _ (ma_0 rfl).symm).trans h67
                have ht := ht.ui 30 (72 * c + 3 * d + e) ((τ.1 30 (72 * c + 3 * d + e)) + (nI (10000 * (j + 1)))) rfl
                have ht : TE (mI (wI M1 (ma mb 30) (72 * c + 3 * d + e) ((τ.1 30 (72 * c + 3 * d + e)) + (nI (10000 * (j + 1)))))) (mL (wI M1 (ma mb 30) (72 * c + 3 * d + e) ((τ.1 30 (72 * c + 3 * d + e)) + (nI (10000 * (j + 1)))))) mb (sI τ 30 (72 * c + 3 * d + e) (τ.1 30 (72 * c + 3 * d + e) + nI (10000 * (j + 1)))) := by rw [← hof.set]; exact ht
                have hbk2 := bo_add (hbo (72 * c + 3 * d + e) (by omega)).1 (hbo (72 * c + 3 * d + e) (by omega)).2 (show 10000 * (j + 1) ≤ 2000000 by omega)
                have hwk : WF (sI τ 30 (72 * c + 3 * d + e) (τ.1 30 (72 * c + 3 * d + e) + nI (10000 * (j + 1)))) := wf_bonus hw hbk2.1 hbk2.2
                refine r_aload_n C 0 dX12_grossFor_141 rfl rfl ?_
                refine r_iload_n C 1 dX12_grossFor_142 rfl rfl ?_
                refine r_callV C hgX (ci := 14) ml_X12_389 im_X12_slips se_X12_slips rfl rfl (show mK (wI M1 (ma mb 30) (72 * c + 3 * d + e) ((τ.1 30 (72 * c + 3 * d + e)) + (nI (10000 * (j + 1))))) mb = 14 + 1 from hm.k) (c_X12_slips l hfl G (wI M1 (ma mb 30) (72 * c + 3 * d + e) ((τ.1 30 (72 * c + 3 * d + e)) + (nI (10000 * (j + 1))))) mb (sI τ 30 (72 * c + 3 * d + e) (τ.1 30 (72 * c + 3 * d + e) + nI (10000 * (j + 1)))) hm ht hwk c (by omega) (hlb)) rfl (Nat.le_of_ble_eq_true rfl) ⟨Nat.le_of_ble_eq_true rfl, Nat.le_of_ble_eq_true rfl⟩ ⟨Nat.le_of_ble_eq_true rfl, Nat.le_of_ble_eq_true rfl⟩ dX12_grossFor_143 rfl ?_
                rintro _ My3 ⟨rfl, hfo3, hbk3, hlb3⟩
                have hm := hfo3.ok hm
                have ht := hfo3.te rfl ht
                have htb := hfo3.tb rfl htb
                have h67 := (hfo3.s 67 rfl).trans h67
                have hfo := hfo.tr (hfo3.mono rfl)
                have hlb := hlb3
                have hbk := hbk3
                refine r_aload_n C 0 dX12_grossFor_146 rfl rfl ?_
                refine r_getR C (b := (ma mb 62)) fl_X12_164 rfl hm.k (hm.r 62 rfl) dX12_grossFor_147 ?_
                refine r_iload_n C 2 dX12_grossFor_150 rfl rfl ?_
                refine r_laloadN C (hm.i 62 21 rfl) (hm.n 62 24 rfl) (by omega) (by omega) dX12_grossFor_151 ?_
                refine V.el (y := ntL (sI τ 30 (72 * c + 3 * d + e) (τ.1 30 (72 * c + 3 * d + e) + nI (10000 * (j + 1)))) c d) ((hbk d hd).2.1.2.2.1) ?_
                refine r_lload C 3 dX12_grossFor_152 rfl ?_
                refine r_lcmp_lt C (t := 167) dX12_grossFor_154 dX12_grossFor_155 (by decide) (fun c155 => ?_) (fun c155 => ?_)
                · skip
                  refine r_iconst C (v := (-1)) dX12_grossFor_167 (by decide) ?_
                  refine r_istore C (lo' := [(10, .int (-1)), (0, .ref mb), (1, .int (nI c)), (2, .int (nI d)), (6, .long (ntL τ c d + lN n)), (8, .int (nI (72 * c + 3 * d + e))), (9, .int (τ.1 30 (72 * c + 3 * d + e))), (11, .int (nI (j + 1)))]) dX12_grossFor_168 (by decide) rfl ?_
                  refine r_iinc C (v := nI (j + 1 + 1)) (lo' := [(11, .int (nI (j + 1 + 1))), (10, .int (-1)), (0, .ref mb), (1, .int (nI c)), (2, .int (nI d)), (6, .long (ntL τ c d + lN n)), (8, .int (nI (72 * c + 3 * d + e))), (9, .int (τ.1 30 (72 * c + 3 * d + e)))]) 7 dX12_grossFor_170 rfl (nI_addI (j + 1) 1) (by decide) rfl ?_
                  refine r_goto C (t := 112) dX12_grossFor_173 (by decide) ?_
                  refine V.sub [2, 3, 4, 5, 6, 7, 1, 0] (lo' := [(0, .ref mb), (1, .int (nI c)), (2, .int (nI d)), (6, .long (ntL τ c d + lN n)), (8, .int (nI (72 * c + 3 * d + e))), (9, .int (τ.1 30 (72 * c + 3 * d + e))), (10, .int (-1)), (11, .int (nI (j + 1 + 1)))]) rfl ?_
                  exact ih112 My3 (sI τ 30 (72 * c + 3 * d + e) (τ.1 30 (72 * c + 3 * d + e) + nI (10000 * (j + 1)))) (j + 1) (-1) (by omega) ht htb hfo hm h67 hlb (offB.of _ _ _) (.inl ⟨rfl, fun i hi => by by_cases z : i = j; (rw [z]; exact decide_eq_false (Int64.not_le.mpr c155)); exact hall i (by omega)⟩) (by omega)
                · skip
                  refine r_sipush C (v := nI 10000) dX12_grossFor_158 (by decide) ?_
                  refine r_iload C 7 dX12_grossFor_161 rfl ?_
                  refine r_imulN C dX12_grossFor_163 ?_
                  refine r_goto C (t := 168) dX12_grossFor_164 (by decide) ?_
                  refine r_istore C (lo' := [(10, .int (nI (10000 * (j + 1)))), (0, .ref mb), (1, .int (nI c)), (2, .int (nI d)), (6, .long (ntL τ c d + lN n)), (8, .int (nI (72 * c + 3 * d + e))), (9, .int (τ.1 30 (72 * c + 3 * d + e))), (11, .int (nI (j + 1)))]) dX12_grossFor_168 (by decide) rfl ?_
                  refine r_iinc C (v := nI (j + 1 + 1)) (lo' := [(11, .int (nI (j + 1 + 1))), (10, .int (nI (10000 * (j + 1)))), (0, .ref mb), (1, .int (nI c)), (2, .int (nI d)), (6, .long (ntL τ c d + lN n)), (8, .int (nI (72 * c + 3 * d + e))), (9, .int (τ.1 30 (72 * c + 3 * d + e)))]) 7 dX12_grossFor_170 rfl (nI_addI (j + 1) 1) (by decide) rfl ?_
                  refine r_goto C (t := 112) dX12_grossFor_173 (by decide) ?_
                  refine V.sub [2, 3, 4, 5, 6, 7, 1, 0] (lo' := [(0, .ref mb), (1, .int (nI c)), (2, .int (nI d)), (6, .long (ntL τ c d + lN n)), (8, .int (nI (72 * c + 3 * d + e))), (9, .int (τ.1 30 (72 * c + 3 * d + e))), (10, .int (nI (10000 * (j + 1)))), (11, .int (nI (j + 1 + 1)))]) rfl ?_
                  exact ih112 My3 (sI τ 30 (72 * c + 3 * d + e) (τ.1 30 (72 * c + 3 * d + e) + nI (10000 * (j + 1)))) (j + 1) (nI (10000 * (j + 1))) (by omega) ht htb hfo hm h67 hlb (offB.of _ _ _) (.inr ⟨j, rfl, rfl, decide_eq_true (Int64.not_lt.mp c155), hall⟩) (by omega)
        refine V.sub [6, 7, 8, 4, 3, 2, 1, 0] (lo' := [(0, .ref mb), (1, .int (nI c)), (2, .int (nI d)), (6, .long ((ntL τ c d) + (lN n))), (8, .int (nI (72 * c + 3 * d + e))), (9, .int (τ.1 30 (72 * c + 3 * d + e))), (10, .int (-1)), (11, .int (nI 1))]) rfl ?_
        exact lp112 _ My1 τ 0 (-1) (Nat.zero_le _) ht htb hfo hm h67 hlb (offB.rf _ _) (.inl ⟨rfl, fun i hi => absurd hi (Nat.not_lt_zero _)⟩) (Nat.lt_succ_self _)
      · skip
        have c63d := of_decide_eq_true c63
        have hC : (cd2 (rng x 6 && rng y 24 && rng z 3) (inB w (lN 1) (lN 1000000))) ≠ 0 := c63d
        refine r_iconst C (v := (-1)) dX12_grossFor_66 (by decide) ?_
        exact r_iret C hr (⟨h67, hfo.mo, hlb, fun _ => ⟨ht, htb⟩, fun q => absurd q hC, by first | exact KD.i | exact KD.l | exact KD.n⟩) (by first | exact Nat.zero_le _ | decide) (by first | exact Nat.zero_le _ | decide) dX12_grossFor_67
    refine r_iload C 0 dX12_grossFor_32 rfl ?_
    refine r_if_neB C (t := 41) dX12_grossFor_34 (by decide) (fun c34 => ?_) (fun c34 => ?_)
    · skip
      refine r_aload_n C 1 dX12_grossFor_41 rfl rfl ?_
      refine r_iload C 5 dX12_grossFor_42 rfl ?_
      refine r_i2l C dX12_grossFor_44 ?_
      refine r_lconst C (v := lN 1) dX12_grossFor_45 (by decide) ?_
      refine r_ldc2 C (v := 1000000) kl_X12_225 dX12_grossFor_46 ?_
      refine V.el (y := lN 1000000) (by decide) ?_
      refine r_callV C hgX (ci := 14) ml_X12_191 im_X12_in se_X12_in rfl rfl hm.k (c_X12_in l hfl G M mb w.toInt64 (lN 1) (lN 1000000)) rfl (Nat.le_of_ble_eq_true rfl) ⟨Nat.le_of_ble_eq_true rfl, Nat.le_of_ble_eq_true rfl⟩ ⟨Nat.le_of_ble_eq_true rfl, Nat.le_of_ble_eq_true rfl⟩ dX12_grossFor_49 rfl ?_
      rintro _ _ ⟨rfl, rfl⟩
      refine V.eSt (st' := [.int (bI (decide ((lN 1) ≤ w.toInt64 ∧ w.toInt64 ≤ (lN 1000000)))), .ref mb]) rfl ?_
      refine V.ei (y := bI (inB w (lN 1) (lN 1000000))) rfl ?_
      refine r_if_eqB C (t := 59) dX12_grossFor_52 (by decide) (fun c52 => ?_) (fun c52 => ?_)
      · skip
        refine r_iconst C (v := nI 2) dX12_grossFor_59 (by decide) ?_
        refine V.ei (y := nI (cd2 (rng x 6 && rng y 24 && rng z 3) (inB w (lN 1) (lN 1000000)))) (congrArg nI (by simp only [c34, c52] <;> rfl)) ?_
        exact jn60
      · skip
        refine r_iconst C (v := nI 0) dX12_grossFor_55 (by decide) ?_
        refine r_goto C (t := 60) dX12_grossFor_56 (by decide) ?_
        refine V.ei (y := nI (cd2 (rng x 6 && rng y 24 && rng z 3) (inB w (lN 1) (lN 1000000)))) (congrArg nI (by simp only [c34, c52] <;> rfl)) ?_
        exact jn60
    · skip
      refine r_iconst C (v := nI 1) dX12_grossFor_37 (by decide) ?_
      refine r_goto C (t := 60) dX12_grossFor_38 (by decide) ?_
      refine V.ei (y := nI (cd2 (rng x 6 && rng y 24 && rng z 3) (inB w (lN 1) (lN 1000000)))) (congrArg nI (by simp only [c34] <;> rfl)) ?_
      exact jn60
  refine r_aload_n C 0 dX12_grossFor_0 rfl rfl ?_
  refine r_iload_n C 1 dX12_grossFor_1 rfl rfl ?_
  refine r_callV C hgX (ci := 14) ml_X12_212 im_X12_isPerson se_X12_isPerson rfl rfl hm.k (c_X12_isPerson l hfl G M mb hm x) rfl (Nat.le_of_ble_eq_true rfl) ⟨Nat.le_of_ble_eq_true rfl, Nat.le_of_ble_eq_true rfl⟩ ⟨Nat.le_of_ble_eq_true rfl, Nat.le_of_ble_eq_true rfl⟩ dX12_grossFor_2 rfl ?_
  rintro _ _ ⟨rfl, rfl⟩
  refine V.eSt (st' := [.int (bI (rng x 6))]) rfl ?_
  refine r_if_eqB C (t := 28) dX12_grossFor_5 (by decide) (fun c5 => ?_) (fun c5 => ?_)
  · skip
    refine r_iconst C (v := nI 0) dX12_grossFor_28 (by decide) ?_
    refine V.eSt (st' := [.int (bI false)]) rfl ?_
    refine V.ei (y := bI (rng x 6 && rng y 24 && rng z 3)) (congrArg bI (by simp only [c5] <;> rfl)) ?_
    exact jn29
  · skip
    refine r_aload_n C 0 dX12_grossFor_8 rfl rfl ?_
    refine r_iload_n C 2 dX12_grossFor_9 rfl rfl ?_
    refine r_callV C hgX (ci := 14) ml_X12_272 im_X12_isMonth se_X12_isMonth rfl rfl hm.k (c_X12_isMonth l hfl G M mb hm y) rfl (Nat.le_of_ble_eq_true rfl) ⟨Nat.le_of_ble_eq_true rfl, Nat.le_of_ble_eq_true rfl⟩ ⟨Nat.le_of_ble_eq_true rfl, Nat.le_of_ble_eq_true rfl⟩ dX12_grossFor_10 rfl ?_
    rintro _ _ ⟨rfl, rfl⟩
    refine V.eSt (st' := [.int (bI (rng y 24))]) rfl ?_
    refine r_if_eqB C (t := 28) dX12_grossFor_13 (by decide) (fun c13 => ?_) (fun c13 => ?_)
    · skip
      refine r_iconst C (v := nI 0) dX12_grossFor_28 (by decide) ?_
      refine V.eSt (st' := [.int (bI false)]) rfl ?_
      refine V.ei (y := bI (rng x 6 && rng y 24 && rng z 3)) (congrArg bI (by simp only [c5, c13] <;> rfl)) ?_
      exact jn29
    · skip
      refine r_aload_n C 0 dX12_grossFor_16 rfl rfl ?_
      refine r_iload_n C 3 dX12_grossFor_17 rfl rfl ?_
      refine r_callV C hgX (ci := 14) ml_X12_215 im_X12_isPlace se_X12_isPlace rfl rfl hm.k (c_X12_isPlace l hfl G M mb hm z) rfl (Nat.le_of_ble_eq_true rfl) ⟨Nat.le_of_ble_eq_true rfl, Nat.le_of_ble_eq_true rfl⟩ ⟨Nat.le_of_ble_eq_true rfl, Nat.le_of_ble_eq_true rfl⟩ dX12_grossFor_18 rfl ?_
      rintro _ _ ⟨rfl, rfl⟩
      refine V.eSt (st' := [.int (bI (rng z 3))]) rfl ?_
      refine r_if_eqB C (t := 28) dX12_grossFor_21 (by decide) (fun c21 => ?_) (fun c21 => ?_)
      · skip
        refine r_iconst C (v := nI 0) dX12_grossFor_28 (by decide) ?_
        refine V.eSt (st' := [.int (bI false)]) rfl ?_
        refine V.ei (y := bI (rng x 6 && rng y 24 && rng z 3)) (congrArg bI (by simp only [c5, c13, c21] <;> rfl)) ?_
        exact jn29
      · skip
        refine r_iconst C (v := nI 1) dX12_grossFor_24 (by decide) ?_
        refine r_goto C (t := 29) dX12_grossFor_25 (by decide) ?_
        refine V.eSt (st' := [.int (bI true)]) rfl ?_
        refine V.ei (y := bI (rng x 6 && rng y 24 && rng z 3)) (congrArg bI (by simp only [c5, c13, c21] <;> rfl)) ?_
        exact jn29
