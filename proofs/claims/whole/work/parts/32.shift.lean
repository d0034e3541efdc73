/-! THE REFERENCE: shift, bracket, word -/
def brA (x y z : Int32) (ok : Bool) : Nat := if ok = true then 48 * x.toNatClampNeg + 24 * y.toNatClampNeg + z.toNatClampNeg else 0
theorem brA_lt {x y z : Int32} {ok : Bool} (h : ok = true → rng x 3 = true ∧ rng z 24 = true ∧ inB y (lN 0) (lN 1) = true) : brA x y z ok < 144 := by
  unfold brA
  split
  · rename_i q
    obtain ⟨h1, h2, h3⟩ := h q
    obtain ⟨a, ha, rfl⟩ := rng_t h1
    obtain ⟨b, hb, rfl⟩ := rng_t h2
    obtain ⟨c, _, hc, rfl⟩ := inB_N (by decide) (by decide) h3
    rw [nI_clamp (by omega), nI_clamp (by omega), nI_clamp (by omega)]; omega
  · decide
def brI (x y z t n : Int32) : Nat := brA x y z ((rng x 3 && rng z 24) && (inB y (lN 0) (lN 1) && inB t (lN 1) (lN 1000000000) && inB n (lN 0) (lN 900)))
theorem sI_s {τ : Mu} {k x : Nat} {v : Int32} : (sI τ k x v).1 k x = v := up2_same _ _ _ _
def wdB (τ : Mu) (x : Int32) : Bool := decide (un τ 24 6 ≠ 10) && (decide (x ≤ nI 3) || decide (2 ≤ fmD τ 6 (un τ 24 6)))
def shB (τ : Mu) (x y z w : Int32) : Bool := decide (un τ 13 13 ≠ 40) && !meetsB τ x.toNatClampNeg (1440 * y.toNatClampNeg + z.toNatClampNeg) w.toNatClampNeg
def shN (n : Nat) : Nat := if 360 < n then n - 30 else n
def shH (n m : Nat) : Nat := if shN n < 1440 - m then shN n else 1440 - m
def shU (τ : Mu) (c d m n : Nat) : Mu := if d < 719 then sI (sI (sI (sI (sI (sI τ 10 (un τ 13 13) (nI c)) 11 (un τ 13 13) (nI (1440 * d + m))) 12 (un τ 13 13) (nI n)) 13 13 (nI (un τ 13 13 + 1))) 8 (720 * c + d) (nI (un τ 8 (720 * c + d) + shH n m))) 8 (720 * c + d + 1) (nI (un τ 8 (720 * c + d + 1) + (shN n - shH n m)))
  else sI (sI (sI (sI (sI τ 10 (un τ 13 13) (nI c)) 11 (un τ 13 13) (nI (1440 * d + m))) 12 (un τ 13 13) (nI n)) 13 13 (nI (un τ 13 13 + 1))) 8 (720 * c + d) (nI (un τ 8 (720 * c + d) + shH n m))
theorem sI_k {τ : Mu} {k x y : Nat} {v : Int32} (h : y ≠ x) : (sI τ k x v).1 k y = τ.1 k y := up2_k _ _ h
theorem shN_le (n : Nat) : shN n ≤ n := by unfold shN; split <;> omega
theorem shH_le (n m : Nat) : shH n m ≤ shN n := by unfold shH; split <;> omega
theorem isOfB_t {τ : Mu} (hw : WF τ) {x y : Int32} (h : isOfB τ x y = true) : ∃ c d, c < un τ 9 9 ∧ un τ 2 c ≤ d ∧ d ≤ un τ 3 c ∧ x = nI c ∧ y = nI d := by
  obtain ⟨h1, h2⟩ := Bool.and_eq_true_iff.mp h
  obtain ⟨c, hc, rfl⟩ := rng_t h1
  have h9 := hw.nc.2
  rw [nI_clamp (by omega)] at h2
  have h3 := of_decide_eq_true h2
  have h4 := (hw.ct c hc).2
  have h5 : ¬ y < 0 := by rw [Int32.lt_iff_toInt_lt, Int32.toInt_zero]; omega
  obtain ⟨d, hd, rfl⟩ := nI_of h5
  rw [nI_toInt hd] at h3
  exact ⟨c, d, hc, by omega, by omega, rfl, rfl⟩

set_option maxHeartbeats 4000000 in
set_option maxRecDepth 100000 in
theorem c_X12_shift (l : Launch) (hfl : l.flags = flags0) (G : gW) (M : Mem) (mb : Nat) (τ : Mu) (hm : MOK (mK M) (mN M) (mR M) mb) (ht : TE (mI M) (mL M) mb τ) (hw : WF τ) (htb : TEb (mI M) (mL M) mb τ) (hlb : LTB M mb) (x y z w : Int32) : CT l yX12_shift cX12_shift 9 (some .int) 3 0 0 69 G M [.ref mb, .int x, .int y, .int z, .int w] (fun v M' => PP mb M τ (cd3 (isOfB τ x y) (inB z (lN 0) (lN 1439) && inB w (lN 1) (lN 1440)) (shB τ x y z w)) ((shU τ x.toNatClampNeg y.toNatClampNeg z.toNatClampNeg w.toNatClampNeg)) (some (.int (nI (un τ 13 13 + 1)))) v M') := by
  refine CT.of hfl rfl (Nat.le_of_ble_eq_true rfl) ?_
  intro pp ee ss mm ar bw mt cd C hgX hr hini
  have hnc := hw.nc.2
  have hsh := hw.sh.2
  have hnl := hw.nl.2
  have hne := hw.ne.2
  have hng := hw.ng.2
  have hop := hw.op.2
  have hnp := hw.np.2
  have ht0 := ht
  have hm0 := hm
  have htb0 := htb
  have hfo := fOut.rf [67, 8, 10, 11, 12, 13] mb M
  refine V.eLo (lo' := [(0, .ref mb), (1, .int x), (2, .int y), (3, .int z), (4, .int w)]) rfl ?_
  have jn32 : V pp l ee ({ frames := 3, cells := 0, slots := 0, locals := 69 } : Room) ss mm ar bw mt cd G (MQ bw (Ke G (fun v M' => PP mb M τ (cd3 (isOfB τ x y) (inB z (lN 0) (lN 1439) && inB w (lN 1) (lN 1440)) (shB τ x y z w)) ((shU τ x.toNatClampNeg y.toNatClampNeg z.toNatClampNeg w.toNatClampNeg)) (some (.int (nI (un τ 13 13 + 1)))) v M')) ar ss 0 0 (gA G)) 9 M 0 0 32 [(0, .ref mb), (1, .int x), (2, .int y), (3, .int z), (4, .int w)] [.int (bI (inB z (lN 0) (lN 1439) && inB w (lN 1) (lN 1440)))] := by
    skip
    refine r_istore C (lo' := [(5, .int (bI (inB z (lN 0) (lN 1439) && inB w (lN 1) (lN 1440)))), (0, .ref mb), (1, .int x), (2, .int y), (3, .int z), (4, .int w)]) dX12_shift_32 (by decide) rfl ?_
    have jn79 : V pp l ee ({ frames := 3, cells := 0, slots := 0, locals := 69 } : Room) ss mm ar bw mt cd G (MQ bw (Ke G (fun v M' => PP mb M τ (cd3 (isOfB τ x y) (inB z (lN 0) (lN 1439) && inB w (lN 1) (lN 1440)) (shB τ x y z w)) ((shU τ x.toNatClampNeg y.toNatClampNeg z.toNatClampNeg w.toNatClampNeg)) (some (.int (nI (un τ 13 13 + 1)))) v M')) ar ss 0 0 (gA G)) 9 M 0 0 79 [(5, .int (bI (inB z (lN 0) (lN 1439) && inB w (lN 1) (lN 1440)))), (0, .ref mb), (1, .int x), (2, .int y), (3, .int z), (4, .int w)] [.int (bI (isOfB τ x y && (inB z (lN 0) (lN 1439) && inB w (lN 1) (lN 1440)) && !(shB τ x y z w)))] := by
      skip
      refine r_istore C (lo' := [(6, .int (bI (isOfB τ x y && (inB z (lN 0) (lN 1439) && inB w (lN 1) (lN 1440)) && !(shB τ x y z w)))), (5, .int (bI (inB z (lN 0) (lN 1439) && inB w (lN 1) (lN 1440)))), (0, .ref mb), (1, .int x), (2, .int y), (3, .int z), (4, .int w)]) dX12_shift_79 (by decide) rfl ?_
      refine r_aload_n C 2 dX12_shift_81 rfl rfl ?_
      have jn114 : V pp l ee ({ frames := 3, cells := 0, slots := 0, locals := 69 } : Room) ss mm ar bw mt cd G (MQ bw (Ke G (fun v M' => PP mb M τ (cd3 (isOfB τ x y) (inB z (lN 0) (lN 1439) && inB w (lN 1) (lN 1440)) (shB τ x y z w)) ((shU τ x.toNatClampNeg y.toNatClampNeg z.toNatClampNeg w.toNatClampNeg)) (some (.int (nI (un τ 13 13 + 1)))) v M')) ar ss 0 0 (gA G)) 9 M 0 0 114 [(6, .int (bI (isOfB τ x y && (inB z (lN 0) (lN 1439) && inB w (lN 1) (lN 1440)) && !(shB τ x y z w)))), (5, .int (bI (inB z (lN 0) (lN 1439) && inB w (lN 1) (lN 1440)))), (0, .ref mb), (1, .int x), (2, .int y), (3, .int z), (4, .int w)] [.int (nI (cd3 (isOfB τ x y) (inB z (lN 0) (lN 1439) && inB w (lN 1) (lN 1440)) (shB τ x y z w))), .ref mb] := by
        skip
        refine r_callV C hgX (ci := 14) ml_X12_227 im_X12_holds se_X12_holds rfl rfl hm.k (c_X12_holds l hfl G M mb hm (nI (cd3 (isOfB τ x y) (inB z (lN 0) (lN 1439) && inB w (lN 1) (lN 1440)) (shB τ x y z w)))) rfl (Nat.le_of_ble_eq_true rfl) ⟨Nat.le_of_ble_eq_true rfl, Nat.le_of_ble_eq_true rfl⟩ ⟨Nat.le_of_ble_eq_true rfl, Nat.le_of_ble_eq_true rfl⟩ dX12_shift_114 rfl ?_
        rintro _ _ ⟨rfl, rfl⟩
        refine V.eSt (st' := [.int (bI (decide (0 < nI (cd3 (isOfB τ x y) (inB z (lN 0) (lN 1439) && inB w (lN 1) (lN 1440)) (shB τ x y z w)))))]) rfl ?_
        refine V.ei (y := bI (decide ((cd3 (isOfB τ x y) (inB z (lN 0) (lN 1439) && inB w (lN 1) (lN 1440)) (shB τ x y z w)) ≠ 0))) (congrArg bI (hold_d (cd3_le _ _ _))) ?_
        have hfo := hfo.set0 67 (nI (cd3 (isOfB τ x y) (inB z (lN 0) (lN 1439) && inB w (lN 1) (lN 1440)) (shB τ x y z w))) rfl
        have ht := ht.ws 67 (nI (cd3 (isOfB τ x y) (inB z (lN 0) (lN 1439) && inB w (lN 1) (lN 1440)) (shB τ x y z w))) rfl rfl
        have htb := ((fOut.rf [67] mb _).set0 67 (nI (cd3 (isOfB τ x y) (inB z (lN 0) (lN 1439) && inB w (lN 1) (lN 1440)) (shB τ x y z w))) rfl).tb rfl htb
        have h67 : mI (wI M mb 67 (nI (cd3 (isOfB τ x y) (inB z (lN 0) (lN 1439) && inB w (lN 1) (lN 1440)) (shB τ x y z w)))) mb 67 = nI (cd3 (isOfB τ x y) (inB z (lN 0) (lN 1439) && inB w (lN 1) (lN 1440)) (shB τ x y z w)) := up2_same _ _ _ _
        have hlb : LTB (wI M mb 67 (nI (cd3 (isOfB τ x y) (inB z (lN 0) (lN 1439) && inB w (lN 1) (lN 1440)) (shB τ x y z w)))) mb := hlb.ws 67 _
        refine r_if_eqB C (t := 122) dX12_shift_117 (by decide) (fun c117 => ?_) (fun c117 => ?_)
        · skip
          have c117d := of_decide_eq_false c117
          have hC : (cd3 (isOfB τ x y) (inB z (lN 0) (lN 1439) && inB w (lN 1) (lN 1440)) (shB τ x y z w)) = 0 := by have := c117d; omega
          obtain ⟨h1, h2, h3⟩ := cd3_0 hC
          have h3d : un τ 13 13 ≠ 40 := of_decide_eq_true (Bool.and_eq_true_iff.mp h3).1
          obtain ⟨c, d, hc, hd1, hd2, e_x, e_y⟩ := isOfB_t hw h1
          obtain ⟨hz, hww⟩ := Bool.and_eq_true_iff.mp h2
          obtain ⟨m, hm0_, hm9, e_z⟩ := inB_N (by decide) (by decide) hz
          obtain ⟨n, hn1, hn9, e_w⟩ := inB_N (by decide) (by decide) hww
          have hct := (hw.ct c hc).2
          have hcx : x.toNatClampNeg = c := by rw [e_x, nI_clamp (by omega)]
          have hcy : y.toNatClampNeg = d := by rw [e_y, nI_clamp (by omega)]
          have hcz : z.toNatClampNeg = m := by rw [e_z, nI_clamp (by omega)]
          have hcw : w.toNatClampNeg = n := by rw [e_w, nI_clamp (by omega)]
          refine V.eLo (lo' := [(6, .int (bI (isOfB τ x y && (inB z (lN 0) (lN 1439) && inB w (lN 1) (lN 1440)) && !(shB τ x y z w)))), (5, .int (bI (inB z (lN 0) (lN 1439) && inB w (lN 1) (lN 1440)))), (0, .ref mb), (1, .int (nI c)), (2, .int (nI d)), (3, .int (nI m)), (4, .int (nI n))]) (by rw [e_x, e_y, e_z, e_w]) ?_
          refine r_aload_n C 2 dX12_shift_122 rfl rfl ?_
          refine r_getR C (b := (ma mb 10)) fl_X12_37 rfl hm.k (hm.r 10 rfl) dX12_shift_123 ?_
          refine r_aload_n C 2 dX12_shift_126 rfl rfl ?_
          refine r_getI C fl_X12_238 rfl hm.k dX12_shift_127 ?_
          refine V.ei (y := nI (un τ 13 13)) ((ht.s 13 rfl).trans hw.sh.1) ?_
          refine r_iload_n C 3 dX12_shift_130 rfl rfl ?_
          refine r_iastoreN C (hm.i 10 20 rfl) (hm.n 10 40 rfl) (by omega) (by omega) dX12_shift_131 ?_
          have htb := ((fOut.rf [10] mb _).setI 10 (un τ 13 13) (nI c) rfl).tb rfl htb
          have hlb : LTB (wI (wI M mb 67 (nI (cd3 (isOfB τ x y) (inB z (lN 0) (lN 1439) && inB w (lN 1) (lN 1440)) (shB τ x y z w)))) (ma mb 10) (un τ 13 13) (nI c)) mb := hlb.wi 10 _ _ rfl
          have hfo := hfo.setI 10 (un τ 13 13) (nI c) rfl
          have h67 : mI (wI (wI M mb 67 (nI (cd3 (isOfB τ x y) (inB z (lN 0) (lN 1439) && inB w (lN 1) (lN 1440)) (shB τ x y z w)))) (ma mb 10) (un τ 13 13) (nI c)) mb 67 = _ := (up2_a _ _ (ma_0 rfl).symm).trans h67
          have ht := ht.ui 10 (un τ 13 13) (nI c) rfl
          refine r_aload_n C 2 dX12_shift_132 rfl rfl ?_
          refine r_getR C (b := (ma mb 11)) fl_X12_40 rfl hm.k (hm.r 11 rfl) dX12_shift_133 ?_
          refine r_aload_n C 2 dX12_shift_136 rfl rfl ?_
          refine r_getI C fl_X12_238 rfl hm.k dX12_shift_137 ?_
          refine V.ei (y := nI (un τ 13 13)) ((ht.s 13 rfl).trans hw.sh.1) ?_
          refine r_sipush C (v := nI 1440) dX12_shift_140 (by decide) ?_
          refine r_iload_n C 4 dX12_shift_143 rfl rfl ?_
          refine r_imulN C dX12_shift_144 ?_
          refine r_iload_n C 5 dX12_shift_145 rfl rfl ?_
          refine r_iaddN C dX12_shift_146 ?_
          refine r_iastoreN C (hm.i 11 20 rfl) (hm.n 11 40 rfl) (by omega) (by omega) dX12_shift_147 ?_
          have htb := ((fOut.rf [11] mb _).setI 11 (un τ 13 13) (nI (1440 * d + m)) rfl).tb rfl htb
          have hlb : LTB (wI (wI (wI M mb 67 (nI (cd3 (isOfB τ x y) (inB z (lN 0) (lN 1439) && inB w (lN 1) (lN 1440)) (shB τ x y z w)))) (ma mb 10) (un τ 13 13) (nI c)) (ma mb 11) (un τ 13 13) (nI (1440 * d + m))) mb := hlb.wi 11 _ _ rfl
          have hfo := hfo.setI 11 (un τ 13 13) (nI (1440 * d + m)) rfl
          have h67 : mI (wI (wI (wI M mb 67 (nI (cd3 (isOfB τ x y) (inB z (lN 0) (lN 1439) && inB w (lN 1) (lN 1440)) (shB τ x y z w)))) (ma mb 10) (un τ 13 13) (nI c)) (ma mb 11) (un τ 13 13) (nI (1440 * d + m))) mb 67 = _ := (up2_a _ _ (ma_0 rfl).symm).trans h67
          have ht := ht.ui 11 (un τ 13 13) (nI (1440 * d + m)) rfl
          refine r_aload_n C 2 dX12_shift_148 rfl rfl ?_
          refine r_getR C (b := (ma mb 12)) fl_X12_43 rfl hm.k (hm.r 12 rfl) dX12_shift_149 ?_
          refine r_aload_n C 2 dX12_shift_152 rfl rfl ?_
          refine r_getI C fl_X12_238 rfl hm.k dX12_shift_153 ?_
          refine V.ei (y := nI (un τ 13 13)) ((ht.s 13 rfl).trans hw.sh.1) ?_
          refine r_iload C 6 dX12_shift_156 rfl ?_
          refine r_iastoreN C (hm.i 12 20 rfl) (hm.n 12 40 rfl) (by omega) (by omega) dX12_shift_158 ?_
          have htb := ((fOut.rf [12] mb _).setI 12 (un τ 13 13) (nI n) rfl).tb rfl htb
          have hlb : LTB (wI (wI (wI (wI M mb 67 (nI (cd3 (isOfB τ x y) (inB z (lN 0) (lN 1439) && inB w (lN 1) (lN 1440)) (shB τ x y z w)))) (ma mb 10) (un τ 13 13) (nI c)) (ma mb 11) (un τ 13 13) (nI (1440 * d + m))) (ma mb 12) (un τ 13 13) (nI n)) mb := hlb.wi 12 _ _ rfl
          have hfo := hfo.setI 12 (un τ 13 13) (nI n) rfl
          have h67 : mI (wI (wI (wI (wI M mb 67 (nI (cd3 (isOfB τ x y) (inB z (lN 0) (lN 1439) && inB w (lN 1) (lN 1440)) (shB τ x y z w)))) (ma mb 10) (un τ 13 13) (nI c)) (ma mb 11) (un τ 13 13) (nI (1440 * d + m))) (ma mb 12) (un τ 13 13) (nI n)) mb 67 = _ := (up2_a _ _ (ma_0 rfl).symm).trans h67
          have ht := ht.ui 12 (un τ 13 13) (nI n) rfl
          refine r_aload_n C 2 dX12_shift_159 rfl rfl ?_
          refine r_dup C dX12_shift_160 rfl ?_
          refine r_getI C fl_X12_238 rfl hm.k dX12_shift_161 ?_
          refine V.ei (y := nI (un τ 13 13)) ((ht.s 13 rfl).trans hw.sh.1) ?_
          refine r_iconst C (v := nI 1) dX12_shift_164 (by decide) ?_
          refine r_iaddN C dX12_shift_165 ?_
          refine r_putI C fl_X12_238 hm.k dX12_shift_166 ?_
          have htb := ((fOut.rf [13] mb _).set0 13 (nI (un τ 13 13 + 1)) rfl).tb rfl htb
          have hlb : LTB (wI (wI (wI (wI (wI M mb 67 (nI (cd3 (isOfB τ x y) (inB z (lN 0) (lN 1439) && inB w (lN 1) (lN 1440)) (shB τ x y z w)))) (ma mb 10) (un τ 13 13) (nI c)) (ma mb 11) (un τ 13 13) (nI (1440 * d + m))) (ma mb 12) (un τ 13 13) (nI n)) mb 13 (nI (un τ 13 13 + 1))) mb := hlb.ws 13 _
          have hfo := hfo.set0 13 (nI (un τ 13 13 + 1)) rfl
          have h67 : mI (wI (wI (wI (wI (wI M mb 67 (nI (cd3 (isOfB τ x y) (inB z (lN 0) (lN 1439) && inB w (lN 1) (lN 1440)) (shB τ x y z w)))) (ma mb 10) (un τ 13 13) (nI c)) (ma mb 11) (un τ 13 13) (nI (1440 * d + m))) (ma mb 12) (un τ 13 13) (nI n)) mb 13 (nI (un τ 13 13 + 1))) mb 67 = _ := (up2_k _ _ (by decide)).trans h67
          have ht := ht.us 13 (nI (un τ 13 13 + 1)) rfl
          have jn187 : V pp l ee ({ frames := 3, cells := 0, slots := 0, locals := 69 } : Room) ss mm ar bw mt cd G (MQ bw (Ke G (fun v M' => PP mb M τ (cd3 (isOfB τ x y) (inB z (lN 0) (lN 1439) && inB w (lN 1) (lN 1440)) (shB τ x y z w)) ((shU τ x.toNatClampNeg y.toNatClampNeg z.toNatClampNeg w.toNatClampNeg)) (some (.int (nI (un τ 13 13 + 1)))) v M')) ar ss 0 0 (gA G)) 9 (wI (wI (wI (wI (wI M mb 67 (nI (cd3 (isOfB τ x y) (inB z (lN 0) (lN 1439) && inB w (lN 1) (lN 1440)) (shB τ x y z w)))) (ma mb 10) (un τ 13 13) (nI c)) (ma mb 11) (un τ 13 13) (nI (1440 * d + m))) (ma mb 12) (un τ 13 13) (nI n)) mb 13 (nI (un τ 13 13 + 1))) 0 0 187 [(6, .int (bI (isOfB τ x y && (inB z (lN 0) (lN 1439) && inB w (lN 1) (lN 1440)) && !(shB τ x y z w)))), (5, .int (bI (inB z (lN 0) (lN 1439) && inB w (lN 1) (lN 1440)))), (0, .ref mb), (1, .int (nI c)), (2, .int (nI d)), (3, .int (nI m)), (4, .int (nI n))] [.int (nI (shN n))] := by
            skip
            have hsn := shN_le n
            have hsh := shH_le n m
            refine r_istore C (lo' := [(7, .int (nI (shN n))), (6, .int (bI (isOfB τ x y && (inB z (lN 0) (lN 1439) && inB w (lN 1) (lN 1440)) && !(shB τ x y z w)))), (5, .int (bI (inB z (lN 0) (lN 1439) && inB w (lN 1) (lN 1440)))), (0, .ref mb), (1, .int (nI c)), (2, .int (nI d)), (3, .int (nI m)), (4, .int (nI n))]) dX12_shift_187 (by decide) rfl ?_
            have jn209 : V pp l ee ({ frames := 3, cells := 0, slots := 0, locals := 69 } : Room) ss mm ar bw mt cd G (MQ bw (Ke G (fun v M' => PP mb M τ (cd3 (isOfB τ x y) (inB z (lN 0) (lN 1439) && inB w (lN 1) (lN 1440)) (shB τ x y z w)) ((shU τ x.toNatClampNeg y.toNatClampNeg z.toNatClampNeg w.toNatClampNeg)) (some (.int (nI (un τ 13 13 + 1)))) v M')) ar ss 0 0 (gA G)) 9 (wI (wI (wI (wI (wI M mb 67 (nI (cd3 (isOfB τ x y) (inB z (lN 0) (lN 1439) && inB w (lN 1) (lN 1440)) (shB τ x y z w)))) (ma mb 10) (un τ 13 13) (nI c)) (ma mb 11) (un τ 13 13) (nI (1440 * d + m))) (ma mb 12) (un τ 13 13) (nI n)) mb 13 (nI (un τ 13 13 + 1))) 0 0 209 [(7, .int (nI (shN n))), (6, .int (bI (isOfB τ x y && (inB z (lN 0) (lN 1439) && inB w (lN 1) (lN 1440)) && !(shB τ x y z w)))), (5, .int (bI (inB z (lN 0) (lN 1439) && inB w (lN 1) (lN 1440)))), (0, .ref mb), (1, .int (nI c)), (2, .int (nI d)), (3, .int (nI m)), (4, .int (nI n))] [.int (nI (shH n m))] := by
              skip
              refine r_istore C (lo' := [(8, .int (nI (shH n m))), (7, .int (nI (shN n))), (6, .int (bI (isOfB τ x y && (inB z (lN 0) (lN 1439) && inB w (lN 1) (lN 1440)) && !(shB τ x y z w)))), (5, .int (bI (inB z (lN 0) (lN 1439) && inB w (lN 1) (lN 1440)))), (0, .ref mb), (1, .int (nI c)), (2, .int (nI d)), (3, .int (nI m)), (4, .int (nI n))]) dX12_shift_209 (by decide) rfl ?_
              refine r_aload_n C 4 dX12_shift_211 rfl rfl ?_
              refine r_getR C (b := (ma mb 8)) fl_X12_34 rfl hm.k (hm.r 8 rfl) dX12_shift_212 ?_
              refine r_sipush C (v := nI 720) dX12_shift_215 (by decide) ?_
              refine r_iload_n C 5 dX12_shift_218 rfl rfl ?_
              refine r_imulN C dX12_shift_219 ?_
              refine r_iload_n C 6 dX12_shift_220 rfl rfl ?_
              refine r_iaddN C dX12_shift_221 ?_
              refine r_dup2 C dX12_shift_222 rfl rfl ?_
              refine r_ialoadN C (hm.i 8 20 rfl) (hm.n 8 7200 rfl) (by omega) (by omega) dX12_shift_223 ?_
              refine V.ei (y := nI (un τ 8 (720 * c + d))) ((ht.i 8 rfl _).trans (hw.mn (720 * c + d) (by omega)).1) ?_
              have hb4 := (hw.mn (720 * c + d) (by omega)).2
              refine r_iload C 0 dX12_shift_224 rfl ?_
              refine r_iaddN C dX12_shift_226 ?_
              refine r_iastoreN C (hm.i 8 20 rfl) (hm.n 8 7200 rfl) (by omega) (by omega) dX12_shift_227 ?_
              have htb := ((fOut.rf [8] mb _).setI 8 (720 * c + d) (nI (un τ 8 (720 * c + d) + shH n m)) rfl).tb rfl htb
              have hlb : LTB (wI (wI (wI (wI (wI (wI M mb 67 (nI (cd3 (isOfB τ x y) (inB z (lN 0) (lN 1439) && inB w (lN 1) (lN 1440)) (shB τ x y z w)))) (ma mb 10) (un τ 13 13) (nI c)) (ma mb 11) (un τ 13 13) (nI (1440 * d + m))) (ma mb 12) (un τ 13 13) (nI n)) mb 13 (nI (un τ 13 13 + 1))) (ma mb 8) (720 * c + d) (nI (un τ 8 (720 * c + d) + shH n m))) mb := hlb.wi 8 _ _ rfl
              have hfo := hfo.setI 8 (720 * c + d) (nI (un τ 8 (720 * c + d) + shH n m)) rfl
              have h67 : mI (wI (wI (wI (wI (wI (wI M mb 67 (nI (cd3 (isOfB τ x y) (inB z (lN 0) (lN 1439) && inB w (lN 1) (lN 1440)) (shB τ x y z w)))) (ma mb 10) (un τ 13 13) (nI c)) (ma mb 11) (un τ 13 13) (nI (1440 * d + m))) (ma mb 12) (un τ 13 13) (nI n)) mb 13 (nI (un τ 13 13 + 1))) (ma mb 8) (720 * c + d) (nI (un τ 8 (720 * c + d) + shH n m))) mb 67 = _ := (up2_a _ _ (ma_0 rfl).symm).trans h67
              have ht := ht.ui 8 (720 * c + d) (nI (un τ 8 (720 * c + d) + shH n m)) rfl
              refine r_iload_n C 6 dX12_shift_228 rfl rfl ?_
              refine r_sipush C (v := nI 719) dX12_shift_229 (by decide) ?_
              refine r_icmp_geN C (t := 257) (by omega) (by omega) dX12_shift_232 (by decide) (fun c232 => ?_) (fun c232 => ?_)
              · skip
                refine r_aload_n C 4 dX12_shift_257 rfl rfl ?_
                refine r_getI C fl_X12_238 rfl hm.k dX12_shift_258 ?_
                refine V.ei (y := nI (un τ 13 13 + 1)) ((ht.s 13 rfl).trans rfl) ?_
                exact r_iret C hr (⟨h67, hfo.mo, hlb, fun q => absurd hC q, fun _ => ⟨rfl, by rw [← (show (shU τ c d m n) = (shU τ x.toNatClampNeg y.toNatClampNeg z.toNatClampNeg w.toNatClampNeg) by rw [e_x, e_y, e_z, e_w, nI_clamp (n := c) (by omega), nI_clamp (n := d) (by omega), nI_clamp (n := m) (by omega), nI_clamp (n := n) (by omega)])]; exact (by unfold shU; rw [if_neg (by omega)]; exact ht), by rw [hcx, hcy, hcz, hcw]; unfold shU; rw [if_neg (by omega)]; exact htb.cg rfl rfl (fun _ => ⟨rfl, rfl⟩) (fun _ => ⟨rfl, rfl⟩) (fun _ => ⟨rfl, rfl⟩) (fun _ => ⟨rfl, rfl⟩) (fun _ => ⟨rfl, rfl⟩) (fun _ => ⟨rfl, rfl⟩) (fun _ => ⟨rfl, rfl⟩) ⟩, by first | exact KD.i | exact KD.l | exact KD.n⟩) (by first | exact Nat.zero_le _ | decide) (by first | exact Nat.zero_le _ | decide) dX12_shift_261
              · skip
                refine r_aload_n C 4 dX12_shift_235 rfl rfl ?_
                refine r_getR C (b := (ma mb 8)) fl_X12_34 rfl hm.k (hm.r 8 rfl) dX12_shift_236 ?_
                refine r_sipush C (v := nI 720) dX12_shift_239 (by decide) ?_
                refine r_iload_n C 5 dX12_shift_242 rfl rfl ?_
                refine r_imulN C dX12_shift_243 ?_
                refine r_iload_n C 6 dX12_shift_244 rfl rfl ?_
                refine r_iaddN C dX12_shift_245 ?_
                refine r_iconst C (v := nI 1) dX12_shift_246 (by decide) ?_
                refine r_iaddN C dX12_shift_247 ?_
                refine r_dup2 C dX12_shift_248 rfl rfl ?_
                refine r_ialoadN C (hm.i 8 20 rfl) (hm.n 8 7200 rfl) (by omega) (by omega) dX12_shift_249 ?_
                refine V.ei (y := nI (un τ 8 (720 * c + d + 1))) ((ht.i 8 rfl _).trans ((sI_k (τ := sI (sI (sI (sI τ 10 (un τ 13 13) (nI c)) 11 (un τ 13 13) (nI (1440 * d + m))) 12 (un τ 13 13) (nI n)) 13 13 (nI (un τ 13 13 + 1))) (k := 8) (x := 720 * c + d) (y := 720 * c + d + 1) (v := nI (un τ 8 (720 * c + d) + shH n m)) (by omega)).trans (hw.mn (720 * c + d + 1) (by omega)).1)) ?_
                refine r_iload C 1 dX12_shift_250 rfl ?_
                refine r_iload C 0 dX12_shift_252 rfl ?_
                refine r_isubN C (by omega) dX12_shift_254 ?_
                refine r_iaddN C dX12_shift_255 ?_
                refine r_iastoreN C (hm.i 8 20 rfl) (hm.n 8 7200 rfl) (by omega) (by omega) dX12_shift_256 ?_
                have htb := ((fOut.rf [8] mb _).setI 8 (720 * c + d + 1) (nI (un τ 8 (720 * c + d + 1) + ((shN n) - (shH n m)))) rfl).tb rfl htb
                have hlb : LTB (wI (wI (wI (wI (wI (wI (wI M mb 67 (nI (cd3 (isOfB τ x y) (inB z (lN 0) (lN 1439) && inB w (lN 1) (lN 1440)) (shB τ x y z w)))) (ma mb 10) (un τ 13 13) (nI c)) (ma mb 11) (un τ 13 13) (nI (1440 * d + m))) (ma mb 12) (un τ 13 13) (nI n)) mb 13 (nI (un τ 13 13 + 1))) (ma mb 8) (720 * c + d) (nI (un τ 8 (720 * c + d) + shH n m))) (ma mb 8) (720 * c + d + 1) (nI (un τ 8 (720 * c + d + 1) + ((shN n) - (shH n m))))) mb := hlb.wi 8 _ _ rfl
                have hfo := hfo.setI 8 (720 * c + d + 1) (nI (un τ 8 (720 * c + d + 1) + ((shN n) - (shH n m)))) rfl
                have h67 : mI (wI (wI (wI (wI (wI (wI (wI M mb 67 (nI (cd3 (isOfB τ x y) (inB z (lN 0) (lN 1439) && inB w (lN 1) (lN 1440)) (shB τ x y z w)))) (ma mb 10) (un τ 13 13) (nI c)) (ma mb 11) (un τ 13 13) (nI (1440 * d + m))) (ma mb 12) (un τ 13 13) (nI n)) mb 13 (nI (un τ 13 13 + 1))) (ma mb 8) (720 * c + d) (nI (un τ 8 (720 * c + d) + shH n m))) (ma mb 8) (720 * c + d + 1) (nI (un τ 8 (720 * c + d + 1) + ((shN n) - (shH n m))))) mb 67 = _ := (up2_a _ _ (ma_0 rfl).symm).trans h67
                have ht := ht.ui 8 (720 * c + d + 1) (nI (un τ 8 (720 * c + d + 1) + ((shN n) - (shH n m)))) rfl
                refine r_aload_n C 4 dX12_shift_257 rfl rfl ?_
                refine r_getI C fl_X12_238 rfl hm.k dX12_shift_258 ?_
                refine V.ei (y := nI (un τ 13 13 + 1)) ((ht.s 13 rfl).trans rfl) ?_
                exact r_iret C hr (⟨h67, hfo.mo, hlb, fun q => absurd hC q, fun _ => ⟨rfl, by rw [← (show (shU τ c d m n) = (shU τ x.toNatClampNeg y.toNatClampNeg z.toNatClampNeg w.toNatClampNeg) by rw [e_x, e_y, e_z, e_w, nI_clamp (n := c) (by omega), nI_clamp (n := d) (by omega), nI_clamp (n := m) (by omega), nI_clamp (n := n) (by omega)])]; exact (by unfold shU; rw [if_pos (by omega)]; exact ht), by rw [hcx, hcy, hcz, hcw]; unfold shU; rw [if_pos (by omega)]; exact htb.cg rfl rfl (fun _ => ⟨rfl, rfl⟩) (fun _ => ⟨rfl, rfl⟩) (fun _ => ⟨rfl, rfl⟩) (fun _ => ⟨rfl, rfl⟩) (fun _ => ⟨rfl, rfl⟩) (fun _ => ⟨rfl, rfl⟩) (fun _ => ⟨rfl, rfl⟩) ⟩, by first | exact KD.i | exact KD.l | exact KD.n⟩) (by first | exact Nat.zero_le _ | decide) (by first | exact Nat.zero_le _ | decide) dX12_shift_261
            refine r_iload C 0 dX12_shift_189 rfl ?_
            refine r_sipush C (v := nI 1440) dX12_shift_191 (by decide) ?_
            refine r_iload_n C 6 dX12_shift_194 rfl rfl ?_
            refine r_isubN C (by omega) dX12_shift_195 ?_
            refine r_icmp_geN C (t := 204) (by omega) (by omega) dX12_shift_196 (by decide) (fun c196 => ?_) (fun c196 => ?_)
            · skip
              refine r_sipush C (v := nI 1440) dX12_shift_204 (by decide) ?_
              refine r_iload_n C 6 dX12_shift_207 rfl rfl ?_
              refine r_isubN C (by omega) dX12_shift_208 ?_
              refine V.ei (y := nI (shH n m)) (congrArg nI (by unfold shH; rw [if_neg (by omega)])) ?_
              exact jn209
            · skip
              refine r_iload C 0 dX12_shift_199 rfl ?_
              refine r_goto C (t := 209) dX12_shift_201 (by decide) ?_
              refine V.ei (y := nI (shH n m)) (congrArg nI (by unfold shH; rw [if_pos (by omega)])) ?_
              exact jn209
          refine r_iload C 6 dX12_shift_169 rfl ?_
          refine r_sipush C (v := nI 360) dX12_shift_171 (by decide) ?_
          refine r_icmp_leN C (t := 185) (by omega) (by omega) dX12_shift_174 (by decide) (fun c174 => ?_) (fun c174 => ?_)
          · skip
            refine r_iload C 6 dX12_shift_185 rfl ?_
            refine V.ei (y := nI (shN n)) (congrArg nI (by unfold shN; rw [if_neg (by omega)])) ?_
            exact jn187
          · skip
            refine r_iload C 6 dX12_shift_177 rfl ?_
            refine r_bipush C (v := nI 30) dX12_shift_179 (by decide) ?_
            refine r_isubN C (by omega) dX12_shift_181 ?_
            refine r_goto C (t := 187) dX12_shift_182 (by decide) ?_
            refine V.ei (y := nI (shN n)) (congrArg nI (by unfold shN; rw [if_pos (by omega)])) ?_
            exact jn187
        · skip
          have c117d := of_decide_eq_true c117
          have hC : (cd3 (isOfB τ x y) (inB z (lN 0) (lN 1439) && inB w (lN 1) (lN 1440)) (shB τ x y z w)) ≠ 0 := c117d
          refine r_iconst C (v := (-1)) dX12_shift_120 (by decide) ?_
          exact r_iret C hr (⟨h67, hfo.mo, hlb, fun _ => ⟨ht, htb⟩, fun q => absurd q hC, by first | exact KD.i | exact KD.l | exact KD.n⟩) (by first | exact Nat.zero_le _ | decide) (by first | exact Nat.zero_le _ | decide) dX12_shift_121
      refine r_aload_n C 2 dX12_shift_82 rfl rfl ?_
      refine r_iload_n C 3 dX12_shift_83 rfl rfl ?_
      refine r_iload_n C 4 dX12_shift_84 rfl rfl ?_
      refine r_callV C hgX (ci := 14) ml_X12_245 im_X12_isOf se_X12_isOf rfl rfl hm.k (c_X12_isOf l hfl G M mb τ hm ht hw x y) rfl (Nat.le_of_ble_eq_true rfl) ⟨Nat.le_of_ble_eq_true rfl, Nat.le_of_ble_eq_true rfl⟩ ⟨Nat.le_of_ble_eq_true rfl, Nat.le_of_ble_eq_true rfl⟩ dX12_shift_85 rfl ?_
      rintro _ _ ⟨rfl, rfl⟩
      refine V.eSt (st' := [.int (bI (isOfB τ x y)), .ref mb]) rfl ?_
      refine r_if_neB C (t := 95) dX12_shift_88 (by decide) (fun c88 => ?_) (fun c88 => ?_)
      · skip
        refine r_iload C 1 dX12_shift_95 rfl ?_
        refine r_if_neB C (t := 104) dX12_shift_97 (by decide) (fun c97 => ?_) (fun c97 => ?_)
        · skip
          refine r_iload C 0 dX12_shift_104 rfl ?_
          refine r_if_eqB C (t := 113) dX12_shift_106 (by decide) (fun c106 => ?_) (fun c106 => ?_)
          · skip
            have b9 : shB τ x y z w = true := by have q := c106; rw [c88, c97] at q; simpa using q
            refine r_iconst C (v := nI 0) dX12_shift_113 (by decide) ?_
            refine V.ei (y := nI (cd3 (isOfB τ x y) (inB z (lN 0) (lN 1439) && inB w (lN 1) (lN 1440)) (shB τ x y z w))) (congrArg nI (by simp only [c88, c97, b9] <;> rfl)) ?_
            exact jn114
          · skip
            have b9 : shB τ x y z w = false := by have q := c106; rw [c88, c97] at q; simpa using q
            refine r_iconst C (v := nI 3) dX12_shift_109 (by decide) ?_
            refine r_goto C (t := 114) dX12_shift_110 (by decide) ?_
            refine V.ei (y := nI (cd3 (isOfB τ x y) (inB z (lN 0) (lN 1439) && inB w (lN 1) (lN 1440)) (shB τ x y z w))) (congrArg nI (by simp only [c88, c97, b9] <;> rfl)) ?_
            exact jn114
        · skip
          refine r_iconst C (v := nI 2) dX12_shift_100 (by decide) ?_
          refine r_goto C (t := 114) dX12_shift_101 (by decide) ?_
          refine V.ei (y := nI (cd3 (isOfB τ x y) (inB z (lN 0) (lN 1439) && inB w (lN 1) (lN 1440)) (shB τ x y z w))) (congrArg nI (by simp only [c88, c97] <;> rfl)) ?_
          exact jn114
      · skip
        refine r_iconst C (v := nI 1) dX12_shift_91 (by decide) ?_
        refine r_goto C (t := 114) dX12_shift_92 (by decide) ?_
        refine V.ei (y := nI (cd3 (isOfB τ x y) (inB z (lN 0) (lN 1439) && inB w (lN 1) (lN 1440)) (shB τ x y z w))) (congrArg nI (by simp only [c88] <;> rfl)) ?_
        exact jn114
    refine r_aload_n C 1 dX12_shift_34 rfl rfl ?_
    refine r_iload_n C 2 dX12_shift_35 rfl rfl ?_
    refine r_iload_n C 3 dX12_shift_36 rfl rfl ?_
    refine r_callV C hgX (ci := 14) ml_X12_245 im_X12_isOf se_X12_isOf rfl rfl hm.k (c_X12_isOf l hfl G M mb τ hm ht hw x y) rfl (Nat.le_of_ble_eq_true rfl) ⟨Nat.le_of_ble_eq_true rfl, Nat.le_of_ble_eq_true rfl⟩ ⟨Nat.le_of_ble_eq_true rfl, Nat.le_of_ble_eq_true rfl⟩ dX12_shift_37 rfl ?_
    rintro _ _ ⟨rfl, rfl⟩
    refine V.eSt (st' := [.int (bI (isOfB τ x y))]) rfl ?_
    refine r_if_eqB C (t := 78) dX12_shift_40 (by decide) (fun c40 => ?_) (fun c40 => ?_)
    · skip
      refine r_iconst C (v := nI 0) dX12_shift_78 (by decide) ?_
      refine V.eSt (st' := [.int (bI false)]) rfl ?_
      refine V.ei (y := bI (isOfB τ x y && (inB z (lN 0) (lN 1439) && inB w (lN 1) (lN 1440)) && !(shB τ x y z w))) (congrArg bI (by simp only [c40] <;> rfl)) ?_
      exact jn79
    · skip
      refine r_iload C 0 dX12_shift_43 rfl ?_
      refine r_if_eqB C (t := 78) dX12_shift_45 (by decide) (fun c45 => ?_) (fun c45 => ?_)
      · skip
        refine r_iconst C (v := nI 0) dX12_shift_78 (by decide) ?_
        refine V.eSt (st' := [.int (bI false)]) rfl ?_
        refine V.ei (y := bI (isOfB τ x y && (inB z (lN 0) (lN 1439) && inB w (lN 1) (lN 1440)) && !(shB τ x y z w))) (congrArg bI (by simp only [c40, c45] <;> rfl)) ?_
        exact jn79
      · skip
        obtain ⟨c, d, hc, hd1, hd2, e_x, e_y⟩ := isOfB_t hw c40
        obtain ⟨hz, hww⟩ := Bool.and_eq_true_iff.mp c45
        obtain ⟨m, hm0_, hm9, e_z⟩ := inB_N (by decide) (by decide) hz
        obtain ⟨n, hn1, hn9, e_w⟩ := inB_N (by decide) (by decide) hww
        have hct := (hw.ct c hc).2
        have hcx : x.toNatClampNeg = c := by rw [e_x, nI_clamp (by omega)]
        have hcy : y.toNatClampNeg = d := by rw [e_y, nI_clamp (by omega)]
        have hcz : z.toNatClampNeg = m := by rw [e_z, nI_clamp (by omega)]
        have hcw : w.toNatClampNeg = n := by rw [e_w, nI_clamp (by omega)]
        refine r_aload_n C 1 dX12_shift_48 rfl rfl ?_
        refine r_getI C fl_X12_238 rfl hm.k dX12_shift_49 ?_
        refine V.ei (y := nI (un τ 13 13)) ((ht.s 13 rfl).trans hw.sh.1) ?_
        refine r_bipush C (v := nI 40) dX12_shift_52 (by decide) ?_
        refine r_icmp_eqN C (t := 74) (by omega) (by omega) dX12_shift_54 (by decide) (fun c54 => ?_) (fun c54 => ?_)
        · skip
          refine r_iconst C (v := nI 1) dX12_shift_74 (by decide) ?_
          refine r_goto C (t := 79) dX12_shift_75 (by decide) ?_
          refine V.eSt (st' := [.int (bI true)]) rfl ?_
          refine V.ei (y := bI (isOfB τ x y && (inB z (lN 0) (lN 1439) && inB w (lN 1) (lN 1440)) && !(shB τ x y z w))) (congrArg bI (by simp only [c40, c45, shB, show decide (un τ 13 13 ≠ 40) = false from decide_eq_false (fun q => q c54)] <;> rfl)) ?_
          exact jn79
        · skip
          refine r_aload_n C 1 dX12_shift_57 rfl rfl ?_
          refine r_iload_n C 2 dX12_shift_58 rfl rfl ?_
          refine V.ei (y := nI c) e_x ?_
          refine r_sipush C (v := nI 1440) dX12_shift_59 (by decide) ?_
          refine r_iload_n C 3 dX12_shift_62 rfl rfl ?_
          refine V.ei (y := nI d) e_y ?_
          refine r_imulN C dX12_shift_63 ?_
          refine r_iload_n C 4 dX12_shift_64 rfl rfl ?_
          refine V.ei (y := nI m) e_z ?_
          refine r_iaddN C dX12_shift_65 ?_
          refine r_iload C 5 dX12_shift_66 rfl ?_
          refine V.ei (y := nI n) e_w ?_
          refine r_callV C hgX (ci := 14) ml_X12_249 im_X12_meets se_X12_meets rfl rfl hm.k (c_X12_meets l hfl G M mb τ hm ht hw c (1440 * d + m) n (by omega) (by omega) (by omega)) rfl (Nat.le_of_ble_eq_true rfl) ⟨Nat.le_of_ble_eq_true rfl, Nat.le_of_ble_eq_true rfl⟩ ⟨Nat.le_of_ble_eq_true rfl, Nat.le_of_ble_eq_true rfl⟩ dX12_shift_68 rfl ?_
          rintro _ _ ⟨rfl, rfl⟩
          refine V.eSt (st' := [.int (bI (meetsB τ c (1440 * d + m) n))]) rfl ?_
          refine r_if_eqB C (t := 78) dX12_shift_71 (by decide) (fun c71 => ?_) (fun c71 => ?_)
          · skip
            refine r_iconst C (v := nI 0) dX12_shift_78 (by decide) ?_
            refine V.eSt (st' := [.int (bI false)]) rfl ?_
            refine V.ei (y := bI (isOfB τ x y && (inB z (lN 0) (lN 1439) && inB w (lN 1) (lN 1440)) && !(shB τ x y z w))) (congrArg bI (by simp only [c40, c45, shB, decide_eq_true c54, hcx, hcy, hcz, hcw, c71] <;> rfl)) ?_
            exact jn79
          · skip
            refine r_iconst C (v := nI 1) dX12_shift_74 (by decide) ?_
            refine r_goto C (t := 79) dX12_shift_75 (by decide) ?_
            refine V.eSt (st' := [.int (bI true)]) rfl ?_
            refine V.ei (y := bI (isOfB τ x y && (inB z (lN 0) (lN 1439) && inB w (lN 1) (lN 1440)) && !(shB τ x y z w))) (congrArg bI (by simp only [c40, c45, shB, decide_eq_true c54, hcx, hcy, hcz, hcw, c71] <;> rfl)) ?_
            exact jn79
  refine r_aload_n C 0 dX12_shift_0 rfl rfl ?_
  refine r_iload_n C 3 dX12_shift_1 rfl rfl ?_
  refine r_i2l C dX12_shift_2 ?_
  refine r_lconst C (v := lN 0) dX12_shift_3 (by decide) ?_
  refine r_ldc2 C (v := 1439) kl_X12_241 dX12_shift_4 ?_
  refine V.el (y := lN 1439) (by decide) ?_
  refine r_callV C hgX (ci := 14) ml_X12_191 im_X12_in se_X12_in rfl rfl hm.k (c_X12_in l hfl G M mb z.toInt64 (lN 0) (lN 1439)) rfl (Nat.le_of_ble_eq_true rfl) ⟨Nat.le_of_ble_eq_true rfl, Nat.le_of_ble_eq_true rfl⟩ ⟨Nat.le_of_ble_eq_true rfl, Nat.le_of_ble_eq_true rfl⟩ dX12_shift_7 rfl ?_
  rintro _ _ ⟨rfl, rfl⟩
  refine V.eSt (st' := [.int (bI (decide ((lN 0) ≤ z.toInt64 ∧ z.toInt64 ≤ (lN 1439))))]) rfl ?_
  refine V.ei (y := bI (inB z (lN 0) (lN 1439))) rfl ?_
  refine r_if_eqB C (t := 31) dX12_shift_10 (by decide) (fun c10 => ?_) (fun c10 => ?_)
  · skip
    refine r_iconst C (v := nI 0) dX12_shift_31 (by decide) ?_
    refine V.eSt (st' := [.int (bI false)]) rfl ?_
    refine V.ei (y := bI (inB z (lN 0) (lN 1439) && inB w (lN 1) (lN 1440))) (congrArg bI (by simp only [c10] <;> rfl)) ?_
    exact jn32
  · skip
    refine r_aload_n C 0 dX12_shift_13 rfl rfl ?_
    refine r_iload C 4 dX12_shift_14 rfl ?_
    refine r_i2l C dX12_shift_16 ?_
    refine r_lconst C (v := lN 1) dX12_shift_17 (by decide) ?_
    refine r_ldc2 C (v := 1440) kl_X12_243 dX12_shift_18 ?_
    refine V.el (y := lN 1440) (by decide) ?_
    refine r_callV C hgX (ci := 14) ml_X12_191 im_X12_in se_X12_in rfl rfl hm.k (c_X12_in l hfl G M mb w.toInt64 (lN 1) (lN 1440)) rfl (Nat.le_of_ble_eq_true rfl) ⟨Nat.le_of_ble_eq_true rfl, Nat.le_of_ble_eq_true rfl⟩ ⟨Nat.le_of_ble_eq_true rfl, Nat.le_of_ble_eq_true rfl⟩ dX12_shift_21 rfl ?_
    rintro _ _ ⟨rfl, rfl⟩
    refine V.eSt (st' := [.int (bI (decide ((lN 1) ≤ w.toInt64 ∧ w.toInt64 ≤ (lN 1440))))]) rfl ?_
    refine V.ei (y := bI (inB w (lN 1) (lN 1440))) rfl ?_
    refine r_if_eqB C (t := 31) dX12_shift_24 (by decide) (fun c24 => ?_) (fun c24 => ?_)
    · skip
      refine r_iconst C (v := nI 0) dX12_shift_31 (by decide) ?_
      refine V.eSt (st' := [.int (bI false)]) rfl ?_
      refine V.ei (y := bI (inB z (lN 0) (lN 1439) && inB w (lN 1) (lN 1440))) (congrArg bI (by simp only [c10, c24] <;> rfl)) ?_
      exact jn32
    · skip
      refine r_iconst C (v := nI 1) dX12_shift_27 (by decide) ?_
      refine r_goto C (t := 32) dX12_shift_28 (by decide) ?_
      refine V.eSt (st' := [.int (bI true)]) rfl ?_
      refine V.ei (y := bI (inB z (lN 0) (lN 1439) && inB w (lN 1) (lN 1440))) (congrArg bI (by simp only [c10, c24] <;> rfl)) ?_
      exact jn32
