theorem flU_I (b : Mu) (D P : Nat → Nat → Nat → Int64) (n f k : Nat) (h : f ≠ 54) : (flU b D P n).1 f k = b.1 f k := if_neg (fun q => h q.1)
theorem cl_D {τ : Mu} {mb q : Nat} {My M2 : Mem} (hq : q < 6) (hf : fOut [68, 69] mb My M2) (h1 : ∀ i, i < q → ∀ k, k < 72 → mL My (ma mb 68) (72 * i + k) = taL τ i (k / 3) (k % 3) ∧ mL My (ma mb 69) (72 * i + k) = coL τ i (k / 3) (k % 3)) (hlow : ∀ i, i < 72 * q → mL M2 (ma mb 68) i = mL My (ma mb 68) i ∧ mL M2 (ma mb 69) i = mL My (ma mb 69) i)
    (h2 : ∀ k, k < 72 → mL M2 (ma mb 68) (72 * q + k) = taL τ q (k / 3) (k % 3) ∧ mL M2 (ma mb 69) (72 * q + k) = coL τ q (k / 3) (k % 3)) : ∀ i, i < q + 1 → ∀ k, k < 72 → mL M2 (ma mb 68) (72 * i + k) = taL τ i (k / 3) (k % 3) ∧ mL M2 (ma mb 69) (72 * i + k) = coL τ i (k / 3) (k % 3) := by
  intro i hi k hk
  by_cases z : i = q
  · subst z; exact h2 k hk
  · obtain ⟨a1, a2⟩ := h1 i (by omega) k hk
    obtain ⟨b1, b2⟩ := hlow (72 * i + k) (by omega)
    exact ⟨b1.trans a1, b2.trans a2⟩
theorem cl_bk {τ : Mu} {p mb : Nat} {M : Mem} (h : ∀ k, k < 24 → BKm τ p M mb k) {k : Nat} (hk : k < 72) : mL M (ma mb 59) k = taL τ p (k / 3) (k % 3) ∧ mL M (ma mb 57) k = coL τ p (k / 3) (k % 3) := by
  obtain ⟨b1, b2, b3, b4, b5⟩ := (h (k / 3) (by omega)).1 (k % 3) (by omega)
  rw [show 3 * (k / 3) + k % 3 = k by omega] at b3 b5
  exact ⟨b5, b3⟩
set_option maxHeartbeats 4000000 in
set_option maxRecDepth 100000 in
theorem c_X12_close (l : Launch) (hfl : l.flags = flags0) (G : gW) (M : Mem) (mb : Nat) (τ : Mu) (hm : MOK (mK M) (mN M) (mR M) mb) (ht : TE (mI M) (mL M) mb τ) (hw : WF τ) (htb : TEb (mI M) (mL M) mb τ) (hlb : LTB M mb) (hnp0 : un τ 51 51 ≤ 6 * un τ 46 46) : CT l yX12_close cX12_close 6 (some .int) 7 0 0 189 G M [.ref mb] (fun v M' => PP mb M τ (cd1 (decide (un τ 46 46 ≠ 24))) (clU τ) (some (.int (nI (un (clS τ 6) 51 51 - un τ 51 51)))) v M') := by
  refine CT.of hfl rfl (Nat.le_of_ble_eq_true rfl) ?_
  intro pp ee ss mm ar bw mt cd C hgX hr hini
  have hnc := hw.nc.2
  have hsh := hw.sh.2
  have hnl := hw.nl.2
  have hne := hw.ne.2
  have hng := hw.ng.2
  have hop := hw.op.2
  have hnp := hw.np.2
  have ht0 := ht
  have hm0 := hm
  have htb0 := htb
  have hfo := fOut.rf [67, 16, 21, 28, 29, 55, 56, 57, 58, 59, 60, 61, 62, 63, 64, 65, 66, 46, 47, 48, 49, 50, 51, 52, 53, 54, 68, 69] mb M
  refine V.eLo (lo' := [(0, .ref mb)]) rfl ?_
  refine r_aload_n C 0 dX12_close_0 rfl rfl ?_
  have jn15 : V pp l ee ({ frames := 7, cells := 0, slots := 0, locals := 189 } : Room) ss mm ar bw mt cd G (MQ bw (Ke G (fun v M' => PP mb M τ (cd1 (decide (un τ 46 46 ≠ 24))) (clU τ) (some (.int (nI (un (clS τ 6) 51 51 - un τ 51 51)))) v M')) ar ss 0 0 (gA G)) 6 M 0 0 15 [(0, .ref mb)] [.int (nI (cd1 (decide (un τ 46 46 ≠ 24)))), .ref mb] := by
    skip
    refine r_callV C hgX (ci := 14) ml_X12_227 im_X12_holds se_X12_holds rfl rfl hm.k (c_X12_holds l hfl G M mb hm (nI (cd1 (decide (un τ 46 46 ≠ 24))))) rfl (Nat.le_of_ble_eq_true rfl) ⟨Nat.le_of_ble_eq_true rfl, Nat.le_of_ble_eq_true rfl⟩ ⟨Nat.le_of_ble_eq_true rfl, Nat.le_of_ble_eq_true rfl⟩ dX12_close_15 rfl ?_
    rintro _ _ ⟨rfl, rfl⟩
    refine V.eSt (st' := [.int (bI (decide (0 < nI (cd1 (decide (un τ 46 46 ≠ 24))))))]) rfl ?_
    refine V.ei (y := bI (decide ((cd1 (decide (un τ 46 46 ≠ 24))) ≠ 0))) (congrArg bI (hold_d (cd1_le _))) ?_
    have hfo := hfo.set0 67 (nI (cd1 (decide (un τ 46 46 ≠ 24)))) rfl
    have ht := ht.ws 67 (nI (cd1 (decide (un τ 46 46 ≠ 24)))) rfl rfl
    have htb := ((fOut.rf [67] mb _).set0 67 (nI (cd1 (decide (un τ 46 46 ≠ 24)))) rfl).tb rfl htb
    have h67 : mI (wI M mb 67 (nI (cd1 (decide (un τ 46 46 ≠ 24))))) mb 67 = nI (cd1 (decide (un τ 46 46 ≠ 24))) := up2_same _ _ _ _
    have hlb : LTB (wI M mb 67 (nI (cd1 (decide (un τ 46 46 ≠ 24))))) mb := hlb.ws 67 _
    refine r_if_eqB C (t := 23) dX12_close_18 (by decide) (fun c18 => ?_) (fun c18 => ?_)
    · skip
      have c18d := of_decide_eq_false c18
      have hC : (cd1 (decide (un τ 46 46 ≠ 24))) = 0 := by have := c18d; omega
      have hod := of_decide_eq_true (cd1_0 hC)
      have ho : un τ 46 46 < 24 := by have := hw.op.2; omega
      refine r_iconst C (v := nI 0) dX12_close_23 (by decide) ?_
      refine r_istore_n C (lo' := [(1, .int (nI 0)), (0, .ref mb)]) dX12_close_24 rfl (by decide) rfl ?_
      refine V.eLo (lo' := [(1, .int (nI (un (clS τ 0) 51 51 - un τ 51 51))), (0, .ref mb)]) (congrArg (fun z_ => ([(1, .int (nI z_)), (0, .ref mb)] : List (Nat × Value))) (Nat.sub_self (un τ 51 51)).symm) ?_
      refine r_iconst C (v := nI 0) dX12_close_25 (by decide) ?_
      refine r_istore_n C (lo' := [(2, .int (nI 0)), (1, .int (nI (un (clS τ 0) 51 51 - un τ 51 51))), (0, .ref mb)]) dX12_close_26 rfl (by decide) rfl ?_
      have lp27 : ∀ (k27 : Nat) (M1 : Mem) (q : Nat) (hq : q ≤ 6) (hfo : fOut [67, 16, 21, 28, 29, 55, 56, 57, 58, 59, 60, 61, 62, 63, 64, 65, 66, 46, 47, 48, 49, 50, 51, 52, 53, 54, 68, 69] mb M M1) (ht : TE (mI M1) (mL M1) mb τ) (htb : TEb (mI M1) (mL M1) mb (clS τ q)) (hm : MOK (mK M1) (mN M1) (mR M1) mb) (h67 : mI M1 mb 67 = nI (cd1 (decide (un τ 46 46 ≠ 24)))) (hlb : LTB M1 mb) (hD : ∀ i, i < q → ∀ k, k < 72 → mL M1 (ma mb 68) (72 * i + k) = taL τ i (k / 3) (k % 3) ∧ mL M1 (ma mb 69) (72 * i + k) = coL τ i (k / 3) (k % 3)), 7 - q < k27 → V pp l ee ({ frames := 7, cells := 0, slots := 0, locals := 189 } : Room) ss mm ar bw mt cd G (MQ bw (Ke G (fun v M' => PP mb M τ (cd1 (decide (un τ 46 46 ≠ 24))) (clU τ) (some (.int (nI (un (clS τ 6) 51 51 - un τ 51 51)))) v M')) ar ss 0 0 (gA G)) 6 M1 0 0 27 [(0, .ref mb), (1, .int (nI (un (clS τ q) 51 51 - un τ 51 51))), (2, .int (nI q))] [] := by
        intro k27
        induction k27 with
        | zero => intro M1 q hq hfo ht htb hm h67 hlb hD hz27; exact absurd hz27 (Nat.not_lt_zero _)
        | succ k27 ih27 =>
          intro M1 q hq hfo ht htb hm h67 hlb hD hz27
          obtain ⟨h51, h47, h48, h50, hge⟩ := clS_ok hw hnp0 ho q hq
          have h51b := h51.2
          have hwb := clS_b hw hnp0 ho hq
          refine r_iload_n C 2 dX12_close_27 rfl rfl ?_
          refine r_bipush C (v := nI 6) dX12_close_28 (by decide) ?_
          refine r_icmp_geN C (t := 165) (by omega) (by omega) dX12_close_30 (by decide) (fun c30 => ?_) (fun c30 => ?_)
          · skip
            have eq6 : q = 6 := by omega
            have hU : sI (flU (clS τ q) (tx3 τ) (co3 τ) 72) 46 46 (nI (un τ 46 46 + 1)) = clU τ := by rw [eq6]; rfl
            refine r_aload_n C 0 dX12_close_165 rfl rfl ?_
            refine r_callV C hgX (ci := 14) ml_X12_404 im_X12_file se_X12_file rfl rfl hm.k (c_X12_file l hfl G M1 mb (clS τ q) (tx3 τ) (co3 τ) hm htb hwb (fun i m p h1 h2 h3 => by have q_ := (hD i (by omega) (3 * m + p) (by omega)).1; rw [show (3 * m + p) / 3 = m by omega, show (3 * m + p) % 3 = p by omega, ← Nat.add_assoc] at q_; exact q_) (fun i m p h1 h2 h3 => by have q_ := (hD i (by omega) (3 * m + p) (by omega)).2; rw [show (3 * m + p) / 3 = m by omega, show (3 * m + p) % 3 = p by omega, ← Nat.add_assoc] at q_; exact q_)) rfl (Nat.le_of_ble_eq_true rfl) ⟨Nat.le_of_ble_eq_true rfl, Nat.le_of_ble_eq_true rfl⟩ ⟨Nat.le_of_ble_eq_true rfl, Nat.le_of_ble_eq_true rfl⟩ dX12_close_166 rfl ?_
            rintro _ My1 ⟨rfl, hfo1, htf1⟩
            have hm := hfo1.ok hm
            have ht := hfo1.te rfl ht
            have htb := htf1
            have h67 := (hfo1.s 67 rfl).trans h67
            have hlb := hlb.fo hfo1 rfl
            have hfo := hfo.tr (hfo1.mono rfl)
            refine r_aload_n C 0 dX12_close_169 rfl rfl ?_
            refine r_dup C dX12_close_170 rfl ?_
            refine r_getI C fl_X12_395 rfl hm.k dX12_close_171 ?_
            refine V.ei (y := nI (un τ 46 46)) (((htb.s 46 rfl).trans (flU_I (clS τ q) (tx3 τ) (co3 τ) 72 46 46 (by decide))).trans ((clS_lo τ q 46 (by omega) 46).1.trans hw.op.1)) ?_
            refine r_iconst C (v := nI 1) dX12_close_174 (by decide) ?_
            refine r_iaddN C dX12_close_175 ?_
            refine r_putI C fl_X12_395 hm.k dX12_close_176 ?_
            have htb := htb.us 46 (nI (un τ 46 46 + 1)) rfl
            have hlb : LTB (wI My1 mb 46 (nI (un τ 46 46 + 1))) mb := hlb.ws 46 _
            have hfo := hfo.set0 46 (nI (un τ 46 46 + 1)) rfl
            have h67 : mI (wI My1 mb 46 (nI (un τ 46 46 + 1))) mb 67 = _ := (up2_k _ _ (by decide)).trans h67
            have ht := ht.ws 46 (nI (un τ 46 46 + 1)) rfl rfl
            refine r_iload_n C 1 dX12_close_179 rfl rfl ?_
            exact r_iret C hr (⟨h67, hfo.mo, hlb, fun q => absurd hC q, fun _ => ⟨by rw [eq6], ht.cgk (fun k hk x => clU_lo τ k hk x), (congrArg (TEb _ _ mb) hU).mp htb⟩, by first | exact KD.i | exact KD.l | exact KD.n⟩) (by first | exact Nat.zero_le _ | decide) (by first | exact Nat.zero_le _ | decide) dX12_close_180
          · skip
            refine r_aload_n C 0 dX12_close_33 rfl rfl ?_
            refine r_iload_n C 2 dX12_close_34 rfl rfl ?_
            refine r_aload_n C 0 dX12_close_35 rfl rfl ?_
            refine r_getI C fl_X12_395 rfl hm.k dX12_close_36 ?_
            refine V.ei (y := nI (un τ 46 46)) (((htb.s 46 rfl).trans (clS_lo τ q 46 (by omega) 46).1).trans hw.op.1) ?_
            refine r_callV C hgX (ci := 14) ml_X12_401 im_X12_owes se_X12_owes rfl rfl hm.k (c_X12_owes l hfl G M1 mb τ hm ht hw (clS τ q) htb hwb q (un τ 46 46) (by omega) (by omega) (hlb)) rfl (Nat.le_of_ble_eq_true rfl) ⟨Nat.le_of_ble_eq_true rfl, Nat.le_of_ble_eq_true rfl⟩ ⟨Nat.le_of_ble_eq_true rfl, Nat.le_of_ble_eq_true rfl⟩ dX12_close_39 rfl ?_
            rintro _ My3 ⟨rfl, hfo3, hbk3, hlb3⟩
            have hm := hfo3.ok hm
            have ht := hfo3.te rfl ht
            have htb := hfo3.tb rfl htb
            have h67 := (hfo3.s 67 rfl).trans h67
            have hfo := hfo.tr (hfo3.mono rfl)
            have hlb := hlb3
            have hbk := hbk3
            have hDm : ∀ i, i < q → ∀ k, k < 72 → mL My3 (ma mb 68) (72 * i + k) = taL τ i (k / 3) (k % 3) ∧ mL My3 (ma mb 69) (72 * i + k) = coL τ i (k / 3) (k % 3) := fun i hi k hk => by rw [hfo3.l 68 rfl, hfo3.l 69 rfl]; exact hD i hi k hk
            have hmB := hm
            have htB := ht
            have htbB := htb
            have h67B := h67
            have hfoB := hfo
            have hlbB := hlb
            refine V.eSt (st' := [.long (pdL (clS τ q) q (sumL (pyL τ q) ((un τ 46 46) + 1)) (un (clS τ q) 51 51))]) rfl ?_
            refine V.el (y := dueP τ (clS τ q) q) rfl ?_
            refine r_lstore_n C (lo' := [(3, .long (dueP τ (clS τ q) q)), (0, .ref mb), (1, .int (nI (un (clS τ q) 51 51 - un τ 51 51))), (2, .int (nI q))]) dX12_close_42 rfl (by decide) rfl ?_
            refine r_iconst C (v := nI 0) dX12_close_43 (by decide) ?_
            refine r_istore C (lo' := [(5, .int (nI 0)), (3, .long (dueP τ (clS τ q) q)), (0, .ref mb), (1, .int (nI (un (clS τ q) 51 51 - un τ 51 51))), (2, .int (nI q))]) dX12_close_44 (by decide) rfl ?_
            have lp46 : ∀ (k46 : Nat) (M2 : Mem) (k : Nat) (hk : k ≤ 72) (hf3 : fOut [68, 69] mb My3 M2) (hlow : ∀ i, i < 72 * q → mL M2 (ma mb 68) i = mL My3 (ma mb 68) i ∧ mL M2 (ma mb 69) i = mL My3 (ma mb 69) i) (hn : ∀ j, j < k → mL M2 (ma mb 68) (72 * q + j) = taL τ q (j / 3) (j % 3) ∧ mL M2 (ma mb 69) (72 * q + j) = coL τ q (j / 3) (j % 3)), 73 - k < k46 → V pp l ee ({ frames := 7, cells := 0, slots := 0, locals := 189 } : Room) ss mm ar bw mt cd G (MQ bw (Ke G (fun v M' => PP mb M τ (cd1 (decide (un τ 46 46 ≠ 24))) (clU τ) (some (.int (nI (un (clS τ 6) 51 51 - un τ 51 51)))) v M')) ar ss 0 0 (gA G)) 6 M2 0 0 46 [(0, .ref mb), (1, .int (nI (un (clS τ q) 51 51 - un τ 51 51))), (2, .int (nI q)), (3, .long (dueP τ (clS τ q) q)), (5, .int (nI k))] [] := by
              intro k46
              induction k46 with
              | zero => intro M2 k hk hf3 hlow hn hz46; exact absurd hz46 (Nat.not_lt_zero _)
              | succ k46 ih46 =>
                intro M2 k hk hf3 hlow hn hz46
                have hm := hf3.ok hmB
                have ht := hf3.te rfl htB
                have htb := hf3.tb rfl htbB
                have h67 := (hf3.s 67 rfl).trans h67B
                have hlb := hlbB.fo hf3 rfl
                have hfo := hfoB.tr (hf3.mono (L' := [67, 16, 21, 28, 29, 55, 56, 57, 58, 59, 60, 61, 62, 63, 64, 65, 66, 46, 47, 48, 49, 50, 51, 52, 53, 54, 68, 69]) rfl)
                refine r_iload C 4 dX12_close_46 rfl ?_
                refine r_bipush C (v := nI 72) dX12_close_48 (by decide) ?_
                refine r_icmp_geN C (t := 97) (by omega) (by omega) dX12_close_50 (by decide) (fun c50 => ?_) (fun c50 => ?_)
                · skip
                  have ek : k = 72 := by omega
                  subst ek
                  have hDn := cl_D (show q < 6 by omega) hf3 hDm hlow hn
                  refine r_lload_n C 3 dX12_close_97 rfl rfl ?_
                  refine r_lconst C (v := lN 0) dX12_close_98 (by decide) ?_
                  refine r_lcmp_le C (t := 159) dX12_close_99 dX12_close_100 (by decide) (fun c100 => ?_) (fun c100 => ?_)
                  · skip
                    have hcs : clS τ (q + 1) = clS τ q := if_neg (Int64.not_lt.mpr c100)
                    refine r_iinc C (v := nI (q + 1)) (lo' := [(2, .int (nI (q + 1))), (0, .ref mb), (1, .int (nI (un (clS τ q) 51 51 - un τ 51 51))), (3, .long (dueP τ (clS τ q) q)), (5, .int (nI 72))]) 2 dX12_close_159 rfl (nI_addI q 1) (by decide) rfl ?_
                    refine r_goto C (t := 27) dX12_close_162 (by decide) ?_
                    have jb1 : (un (clS τ q) 51 51 - un τ 51 51) = (un (clS τ (q + 1)) 51 51 - un τ 51 51) := by rw [hcs]
                    refine V.eLo (lo' := [(2, .int (nI (q + 1))), (0, .ref mb), (1, .int (nI (un (clS τ (q + 1)) 51 51 - un τ 51 51))), (3, .long (dueP τ (clS τ q) q)), (5, .int (nI 72))]) (congrArg (fun z_ => ([(2, .int (nI (q + 1))), (0, .ref mb), (1, .int (nI z_)), (3, .long (dueP τ (clS τ q) q)), (5, .int (nI 72))] : List (Nat × Value))) jb1) ?_
                    refine V.sub [1, 2, 0] (lo' := [(0, .ref mb), (1, .int (nI (un (clS τ (q + 1)) 51 51 - un τ 51 51))), (2, .int (nI (q + 1)))]) rfl ?_
                    exact ih27 M2 (q + 1) (by omega) hfo ht (by rw [hcs]; exact htb) hm h67 hlb hDn (by omega)
                  · skip
                    have hcs : clS τ (q + 1) = sI (sI (sL (sI (sI (clS τ q) 47 (un (clS τ q) 51 51) (nI q)) 48 (un (clS τ q) 51 51) (nI (un τ 46 46))) 49 (un (clS τ q) 51 51) (dueP τ (clS τ q) q)) 50 (un (clS τ q) 51 51) (nI 0)) 51 51 (nI (un (clS τ q) 51 51 + 1)) := if_pos (Int64.not_le.mp c100)
                    have hcs51 : un (clS τ (q + 1)) 51 51 = un (clS τ q) 51 51 + 1 := by rw [hcs]; exact nI_clamp (by omega)
                    refine r_aload_n C 0 dX12_close_103 rfl rfl ?_
                    refine r_getR C (b := (ma mb 47)) fl_X12_122 rfl hm.k (hm.r 47 rfl) dX12_close_104 ?_
                    refine r_aload_n C 0 dX12_close_107 rfl rfl ?_
                    refine r_getI C fl_X12_398 rfl hm.k dX12_close_108 ?_
                    refine V.ei (y := nI (un (clS τ q) 51 51)) ((htb.s 51 rfl).trans h51.1) ?_
                    refine r_iload_n C 2 dX12_close_111 rfl rfl ?_
                    refine r_iastoreN C (hm.i 47 20 rfl) (hm.n 47 144 rfl) (by omega) (by omega) dX12_close_112 ?_
                    have htb := htb.ui 47 (un (clS τ q) 51 51) (nI q) rfl
                    have hlb : LTB (wI M2 (ma mb 47) (un (clS τ q) 51 51) (nI q)) mb := hlb.wi 47 _ _ rfl
                    have hfo := hfo.setI 47 (un (clS τ q) 51 51) (nI q) rfl
                    have h67 : mI (wI M2 (ma mb 47) (un (clS τ q) 51 51) (nI q)) mb 67 = _ := (up2_a _ _ (ma_0 rfl).symm).trans h67
                    have ht := ht.wi 47 (un (clS τ q) 51 51) (nI q) rfl rfl rfl
                    refine r_aload_n C 0 dX12_close_113 rfl rfl ?_
                    refine r_getR C (b := (ma mb 48)) fl_X12_125 rfl hm.k (hm.r 48 rfl) dX12_close_114 ?_
                    refine r_aload_n C 0 dX12_close_117 rfl rfl ?_
                    refine r_getI C fl_X12_398 rfl hm.k dX12_close_118 ?_
                    refine V.ei (y := nI (un (clS τ q) 51 51)) ((htb.s 51 rfl).trans h51.1) ?_
                    refine r_aload_n C 0 dX12_close_121 rfl rfl ?_
                    refine r_getI C fl_X12_395 rfl hm.k dX12_close_122 ?_
                    refine V.ei (y := nI (un τ 46 46)) (((htb.s 46 rfl).trans (clS_lo τ q 46 (by omega) 46).1).trans hw.op.1) ?_
                    refine r_iastoreN C (hm.i 48 20 rfl) (hm.n 48 144 rfl) (by omega) (by omega) dX12_close_125 ?_
                    have htb := htb.ui 48 (un (clS τ q) 51 51) (nI (un τ 46 46)) rfl
                    have hlb : LTB (wI (wI M2 (ma mb 47) (un (clS τ q) 51 51) (nI q)) (ma mb 48) (un (clS τ q) 51 51) (nI (un τ 46 46))) mb := hlb.wi 48 _ _ rfl
                    have hfo := hfo.setI 48 (un (clS τ q) 51 51) (nI (un τ 46 46)) rfl
                    have h67 : mI (wI (wI M2 (ma mb 47) (un (clS τ q) 51 51) (nI q)) (ma mb 48) (un (clS τ q) 51 51) (nI (un τ 46 46))) mb 67 = _ := (up2_a _ _ (ma_0 rfl).symm).trans h67
                    have ht := ht.wi 48 (un (clS τ q) 51 51) (nI (un τ 46 46)) rfl rfl rfl
                    refine r_aload_n C 0 dX12_close_126 rfl rfl ?_
                    refine r_getR C (b := (ma mb 49)) fl_X12_128 rfl hm.k (hm.r 49 rfl) dX12_close_127 ?_
                    refine r_aload_n C 0 dX12_close_130 rfl rfl ?_
                    refine r_getI C fl_X12_398 rfl hm.k dX12_close_131 ?_
                    refine V.ei (y := nI (un (clS τ q) 51 51)) ((htb.s 51 rfl).trans h51.1) ?_
                    refine r_lload_n C 3 dX12_close_134 rfl rfl ?_
                    refine r_lastoreN C (hm.i 49 21 rfl) (hm.n 49 144 rfl) (by omega) (by omega) dX12_close_135 ?_
                    have htb := htb.ul 49 (un (clS τ q) 51 51) (dueP τ (clS τ q) q) rfl
                    have hlb : LTB (wL (wI (wI M2 (ma mb 47) (un (clS τ q) 51 51) (nI q)) (ma mb 48) (un (clS τ q) 51 51) (nI (un τ 46 46))) (ma mb 49) (un (clS τ q) 51 51) (dueP τ (clS τ q) q)) mb := hlb
                    have hfo := hfo.setL 49 (un (clS τ q) 51 51) (dueP τ (clS τ q) q) rfl
                    have h67 : mI (wL (wI (wI M2 (ma mb 47) (un (clS τ q) 51 51) (nI q)) (ma mb 48) (un (clS τ q) 51 51) (nI (un τ 46 46))) (ma mb 49) (un (clS τ q) 51 51) (dueP τ (clS τ q) q)) mb 67 = _ := h67
                    have ht := ht.wl 49 (un (clS τ q) 51 51) (dueP τ (clS τ q) q) rfl
                    refine r_aload_n C 0 dX12_close_136 rfl rfl ?_
                    refine r_getR C (b := (ma mb 50)) fl_X12_131 rfl hm.k (hm.r 50 rfl) dX12_close_137 ?_
                    refine r_aload_n C 0 dX12_close_140 rfl rfl ?_
                    refine r_getI C fl_X12_398 rfl hm.k dX12_close_141 ?_
                    refine V.ei (y := nI (un (clS τ q) 51 51)) ((htb.s 51 rfl).trans h51.1) ?_
                    refine r_iconst C (v := nI 0) dX12_close_144 (by decide) ?_
                    refine r_iastoreN C (hm.i 50 20 rfl) (hm.n 50 144 rfl) (by omega) (by omega) dX12_close_145 ?_
                    have htb := htb.ui 50 (un (clS τ q) 51 51) (nI 0) rfl
                    have hlb : LTB (wI (wL (wI (wI M2 (ma mb 47) (un (clS τ q) 51 51) (nI q)) (ma mb 48) (un (clS τ q) 51 51) (nI (un τ 46 46))) (ma mb 49) (un (clS τ q) 51 51) (dueP τ (clS τ q) q)) (ma mb 50) (un (clS τ q) 51 51) (nI 0)) mb := hlb.wi 50 _ _ rfl
                    have hfo := hfo.setI 50 (un (clS τ q) 51 51) (nI 0) rfl
                    have h67 : mI (wI (wL (wI (wI M2 (ma mb 47) (un (clS τ q) 51 51) (nI q)) (ma mb 48) (un (clS τ q) 51 51) (nI (un τ 46 46))) (ma mb 49) (un (clS τ q) 51 51) (dueP τ (clS τ q) q)) (ma mb 50) (un (clS τ q) 51 51) (nI 0)) mb 67 = _ := (up2_a _ _ (ma_0 rfl).symm).trans h67
                    have ht := ht.wi 50 (un (clS τ q) 51 51) (nI 0) rfl rfl rfl
                    refine r_aload_n C 0 dX12_close_146 rfl rfl ?_
                    refine r_dup C dX12_close_147 rfl ?_
                    refine r_getI C fl_X12_398 rfl hm.k dX12_close_148 ?_
                    refine V.ei (y := nI (un (clS τ q) 51 51)) ((htb.s 51 rfl).trans h51.1) ?_
                    refine r_iconst C (v := nI 1) dX12_close_151 (by decide) ?_
                    refine r_iaddN C dX12_close_152 ?_
                    refine r_putI C fl_X12_398 hm.k dX12_close_153 ?_
                    have htb := htb.us 51 (nI (un (clS τ q) 51 51 + 1)) rfl
                    have hlb : LTB (wI (wI (wL (wI (wI M2 (ma mb 47) (un (clS τ q) 51 51) (nI q)) (ma mb 48) (un (clS τ q) 51 51) (nI (un τ 46 46))) (ma mb 49) (un (clS τ q) 51 51) (dueP τ (clS τ q) q)) (ma mb 50) (un (clS τ q) 51 51) (nI 0)) mb 51 (nI (un (clS τ q) 51 51 + 1))) mb := hlb.ws 51 _
                    have hfo := hfo.set0 51 (nI (un (clS τ q) 51 51 + 1)) rfl
                    have h67 : mI (wI (wI (wL (wI (wI M2 (ma mb 47) (un (clS τ q) 51 51) (nI q)) (ma mb 48) (un (clS τ q) 51 51) (nI (un τ 46 46))) (ma mb 49) (un (clS τ q) 51 51) (dueP τ (clS τ q) q)) (ma mb 50) (un (clS τ q) 51 51) (nI 0)) mb 51 (nI (un (clS τ q) 51 51 + 1))) mb 67 = _ := (up2_k _ _ (by decide)).trans h67
                    have ht := ht.ws 51 (nI (un (clS τ q) 51 51 + 1)) rfl rfl
                    refine r_iinc C (v := nI (un (clS τ q) 51 51 - un τ 51 51 + 1)) (lo' := [(1, .int (nI (un (clS τ q) 51 51 - un τ 51 51 + 1))), (0, .ref mb), (2, .int (nI q)), (3, .long (dueP τ (clS τ q) q)), (5, .int (nI 72))]) 1 dX12_close_156 rfl (nI_addI (un (clS τ q) 51 51 - un τ 51 51) 1) (by decide) rfl ?_
                    refine r_iinc C (v := nI (q + 1)) (lo' := [(2, .int (nI (q + 1))), (1, .int (nI (un (clS τ q) 51 51 - un τ 51 51 + 1))), (0, .ref mb), (3, .long (dueP τ (clS τ q) q)), (5, .int (nI 72))]) 2 dX12_close_159 rfl (nI_addI q 1) (by decide) rfl ?_
                    refine r_goto C (t := 27) dX12_close_162 (by decide) ?_
                    have jb1 : (un (clS τ q) 51 51 - un τ 51 51 + 1) = (un (clS τ (q + 1)) 51 51 - un τ 51 51) := by rw [hcs51]; omega
                    refine V.eLo (lo' := [(2, .int (nI (q + 1))), (1, .int (nI (un (clS τ (q + 1)) 51 51 - un τ 51 51))), (0, .ref mb), (3, .long (dueP τ (clS τ q) q)), (5, .int (nI 72))]) (congrArg (fun z_ => ([(2, .int (nI (q + 1))), (1, .int (nI z_)), (0, .ref mb), (3, .long (dueP τ (clS τ q) q)), (5, .int (nI 72))] : List (Nat × Value))) jb1) ?_
                    refine V.sub [2, 1, 0] (lo' := [(0, .ref mb), (1, .int (nI (un (clS τ (q + 1)) 51 51 - un τ 51 51))), (2, .int (nI (q + 1)))]) rfl ?_
                    exact ih27 (wI (wI (wL (wI (wI M2 (ma mb 47) (un (clS τ q) 51 51) (nI q)) (ma mb 48) (un (clS τ q) 51 51) (nI (un τ 46 46))) (ma mb 49) (un (clS τ q) 51 51) (dueP τ (clS τ q) q)) (ma mb 50) (un (clS τ q) 51 51) (nI 0)) mb 51 (nI (un (clS τ q) 51 51 + 1))) (q + 1) (by omega) hfo ht (by rw [hcs]; exact htb) hm h67 hlb (fun i hi k hk => by rw [show mL (wI (wI (wL (wI (wI M2 (ma mb 47) (un (clS τ q) 51 51) (nI q)) (ma mb 48) (un (clS τ q) 51 51) (nI (un τ 46 46))) (ma mb 49) (un (clS τ q) 51 51) (dueP τ (clS τ q) q)) (ma mb 50) (un (clS τ q) 51 51) (nI 0)) mb 51 (nI (un (clS τ q) 51 51 + 1))) (ma mb 68) = mL M2 (ma mb 68) from up2_row _ _ (ma_ne rfl), show mL (wI (wI (wL (wI (wI M2 (ma mb 47) (un (clS τ q) 51 51) (nI q)) (ma mb 48) (un (clS τ q) 51 51) (nI (un τ 46 46))) (ma mb 49) (un (clS τ q) 51 51) (dueP τ (clS τ q) q)) (ma mb 50) (un (clS τ q) 51 51) (nI 0)) mb 51 (nI (un (clS τ q) 51 51 + 1))) (ma mb 69) = mL M2 (ma mb 69) from up2_row _ _ (ma_ne rfl)]; exact hDn i hi k hk) (by omega)
                · skip
                  refine r_aload_n C 0 dX12_close_53 rfl rfl ?_
                  refine r_getR C (b := (ma mb 68)) fl_X12_179 rfl hm.k (hm.r 68 rfl) dX12_close_54 ?_
                  refine r_bipush C (v := nI 72) dX12_close_57 (by decide) ?_
                  refine r_iload_n C 2 dX12_close_59 rfl rfl ?_
                  refine r_imulN C dX12_close_60 ?_
                  refine r_iload C 4 dX12_close_61 rfl ?_
                  refine r_iaddN C dX12_close_63 ?_
                  refine r_aload_n C 0 dX12_close_64 rfl rfl ?_
                  refine r_getR C (b := (ma mb 59)) fl_X12_155 rfl hm.k (hm.r 59 rfl) dX12_close_65 ?_
                  refine r_iload C 4 dX12_close_68 rfl ?_
                  refine r_laloadN C (hm.i 59 21 rfl) (hm.n 59 72 rfl) (by omega) (by omega) dX12_close_70 ?_
                  refine V.el (y := taL τ q (k / 3) (k % 3)) ((congrFun (hf3.l 59 rfl) k).trans (cl_bk hbk (by omega)).1) ?_
                  refine r_lastoreN C (hm.i 68 21 rfl) (hm.n 68 432 rfl) (by omega) (by omega) dX12_close_71 ?_
                  have htb := ((fOut.rf [68] mb _).setL 68 (72 * q + k) (taL τ q (k / 3) (k % 3)) rfl).tb rfl htb
                  have hlb : LTB (wL M2 (ma mb 68) (72 * q + k) (taL τ q (k / 3) (k % 3))) mb := hlb
                  have hfo := hfo.setL 68 (72 * q + k) (taL τ q (k / 3) (k % 3)) rfl
                  have h67 : mI (wL M2 (ma mb 68) (72 * q + k) (taL τ q (k / 3) (k % 3))) mb 67 = _ := h67
                  have ht := ht.wl 68 (72 * q + k) (taL τ q (k / 3) (k % 3)) rfl
                  refine r_aload_n C 0 dX12_close_72 rfl rfl ?_
                  refine r_getR C (b := (ma mb 69)) fl_X12_182 rfl hm.k (hm.r 69 rfl) dX12_close_73 ?_
                  refine r_bipush C (v := nI 72) dX12_close_76 (by decide) ?_
                  refine r_iload_n C 2 dX12_close_78 rfl rfl ?_
                  refine r_imulN C dX12_close_79 ?_
                  refine r_iload C 4 dX12_close_80 rfl ?_
                  refine r_iaddN C dX12_close_82 ?_
                  refine r_aload_n C 0 dX12_close_83 rfl rfl ?_
                  refine r_getR C (b := (ma mb 57)) fl_X12_149 rfl hm.k (hm.r 57 rfl) dX12_close_84 ?_
                  refine r_iload C 4 dX12_close_87 rfl ?_
                  refine r_laloadN C (hm.i 57 21 rfl) (hm.n 57 72 rfl) (by omega) (by omega) dX12_close_89 ?_
                  refine V.el (y := coL τ q (k / 3) (k % 3)) ((ne_f rfl).trans ((congrFun (hf3.l 57 rfl) k).trans (cl_bk hbk (by omega)).2)) ?_
                  refine r_lastoreN C (hm.i 69 21 rfl) (hm.n 69 432 rfl) (by omega) (by omega) dX12_close_90 ?_
                  have htb := ((fOut.rf [69] mb _).setL 69 (72 * q + k) (coL τ q (k / 3) (k % 3)) rfl).tb rfl htb
                  have hlb : LTB (wL (wL M2 (ma mb 68) (72 * q + k) (taL τ q (k / 3) (k % 3))) (ma mb 69) (72 * q + k) (coL τ q (k / 3) (k % 3))) mb := hlb
                  have hfo := hfo.setL 69 (72 * q + k) (coL τ q (k / 3) (k % 3)) rfl
                  have h67 : mI (wL (wL M2 (ma mb 68) (72 * q + k) (taL τ q (k / 3) (k % 3))) (ma mb 69) (72 * q + k) (coL τ q (k / 3) (k % 3))) mb 67 = _ := h67
                  have ht := ht.wl 69 (72 * q + k) (coL τ q (k / 3) (k % 3)) rfl
                  refine r_iinc C (v := nI (k + 1)) (lo' := [(5, .int (nI (k + 1))), (0, .ref mb), (1, .int (nI (un (clS τ q) 51 51 - un τ 51 51))), (2, .int (nI q)), (3, .long (dueP τ (clS τ q) q))]) 4 dX12_close_91 rfl (nI_addI k 1) (by decide) rfl ?_
                  refine r_goto C (t := 46) dX12_close_94 (by decide) ?_
                  refine V.sub [1, 2, 3, 4, 0] (lo' := [(0, .ref mb), (1, .int (nI (un (clS τ q) 51 51 - un τ 51 51))), (2, .int (nI q)), (3, .long (dueP τ (clS τ q) q)), (5, .int (nI (k + 1)))]) rfl ?_
                  exact ih46 (wL (wL M2 (ma mb 68) (72 * q + k) (taL τ q (k / 3) (k % 3))) (ma mb 69) (72 * q + k) (coL τ q (k / 3) (k % 3))) (k + 1) (by omega) ((hf3.setL 68 _ _ rfl).setL 69 _ _ rfl) (fun i hi => ⟨(ne_f rfl).trans ((in_f (by omega)).trans (hlow i hi).1), (in_f (by omega)).trans ((ne_f rfl).trans (hlow i hi).2)⟩) (fun j hj => by by_cases z : j = k; (subst z; exact ⟨(ne_f rfl).trans eq_f, eq_f⟩); exact ⟨(ne_f rfl).trans ((in_f (by omega)).trans (hn j (by omega)).1), (in_f (by omega)).trans ((ne_f rfl).trans (hn j (by omega)).2)⟩) (by omega)
            refine V.sub [2, 3, 4, 1, 0] (lo' := [(0, .ref mb), (1, .int (nI (un (clS τ q) 51 51 - un τ 51 51))), (2, .int (nI q)), (3, .long (dueP τ (clS τ q) q)), (5, .int (nI 0))]) rfl ?_
            exact lp46 _ My3 0 (Nat.zero_le _) (fOut.rf _ _ _) (fun _ _ => ⟨rfl, rfl⟩) (fun j hj => absurd hj (Nat.not_lt_zero _)) (Nat.lt_succ_self _)
      refine V.sub [2, 1, 0] (lo' := [(0, .ref mb), (1, .int (nI (un (clS τ 0) 51 51 - un τ 51 51))), (2, .int (nI 0))]) rfl ?_
      exact lp27 _ (wI M mb 67 (nI (cd1 (decide (un τ 46 46 ≠ 24))))) 0 (Nat.zero_le _) hfo ht htb hm h67 hlb (fun i hi => absurd hi (Nat.not_lt_zero _)) (Nat.lt_succ_self _)
    · skip
      have c18d := of_decide_eq_true c18
      have hC : (cd1 (decide (un τ 46 46 ≠ 24))) ≠ 0 := c18d
      refine r_iconst C (v := (-1)) dX12_close_21 (by decide) ?_
      exact r_iret C hr (⟨h67, hfo.mo, hlb, fun _ => ⟨ht, htb⟩, fun q => absurd q hC, by first | exact KD.i | exact KD.l | exact KD.n⟩) (by first | exact Nat.zero_le _ | decide) (by first | exact Nat.zero_le _ | decide) dX12_close_22
  refine r_aload_n C 0 dX12_close_1 rfl rfl ?_
  refine r_getI C fl_X12_395 rfl hm.k dX12_close_2 ?_
  refine V.ei (y := nI (un τ 46 46)) ((htb.s 46 rfl).trans hw.op.1) ?_
  refine r_bipush C (v := nI 24) dX12_close_5 (by decide) ?_
  refine r_icmp_neN C (t := 14) (by omega) (by omega) dX12_close_7 (by decide) (fun c7 => ?_) (fun c7 => ?_)
  · skip
    refine r_iconst C (v := nI 0) dX12_close_14 (by decide) ?_
    refine V.ei (y := nI (cd1 (decide (un τ 46 46 ≠ 24)))) (congrArg nI (by simp only [decide_eq_true c7] <;> rfl)) ?_
    exact jn15
  · skip
    refine r_iconst C (v := nI 1) dX12_close_10 (by decide) ?_
    refine r_goto C (t := 15) dX12_close_11 (by decide) ?_
    refine V.ei (y := nI (cd1 (decide (un τ 46 46 ≠ 24)))) (congrArg nI (by simp only [show decide (un τ 46 46 ≠ 24) = false from decide_eq_false (fun q => q c7)] <;> rfl)) ?_
    exact jn15
