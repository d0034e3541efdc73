/-! THE CLASS: leave left, payments, year's tax -/
theorem CF.la {τ : Mu} {α : Nat → Nat} {p nl : Nat} {ln : Nat → Nat} {M M' : Mem} (h2 : EnL τ p nl ln) (g : frm (LaA nl (fun i => lO α (ln i))) M M') : CF τ α M M' := by
  intro a _ _ h3
  have n : ¬ LaA nl (fun i => lO α (ln i)) a := fun ⟨i, hi, e⟩ => h3 _ (lv_l (h2.1 i hi).1) e
  exact ⟨congrFun g.1 a, congrFun g.2.1 a, g.i n, g.l n, congrFun g.2.2.1 a⟩
theorem a_in {a : Int64} (h1 : ¬ a < lN 0) (h2 : ¬ lN 10000000000 < a) : decide (lN 0 ≤ a ∧ a ≤ lN 10000000000) = true := decide_eq_true ⟨Int64.not_lt.mp h1, Int64.not_lt.mp h2⟩
theorem a_lo {a : Int64} (h1 : a < lN 0) : decide (lN 0 ≤ a ∧ a ≤ lN 10000000000) = false := decide_eq_false fun z => absurd z.1 (Int64.not_le.mpr h1)
theorem a_hi {a : Int64} (h1 : lN 10000000000 < a) : decide (lN 0 ≤ a ∧ a ≤ lN 10000000000) = false := decide_eq_false fun z => absurd z.2 (Int64.not_le.mpr h1)
set_option maxHeartbeats 1000000 in
set_option maxRecDepth 100000 in
theorem c_X11_leaveLeft (l : Launch) (hfl : l.flags = flags0) (G : gW) (M : Mem) (τ : Mu) (hw : WF τ) (α : Nat → Nat) (hws : WS τ G α M) (hwt : WT τ α M) (hwb : WB τ α M) (had : ∀ p, p < 6 → AD τ p) (x y : Int32) : CX l yX11_leaveLeft cX11_leaveLeft 3 (some .int) 7 1 6 118 G M [.ref (α 0), .int x, .int y] (fun v M' => PC τ G α M (cd1 (rng x 6 && rng y 720)) (τ) (some (.int (nI (leftN τ x.toNatClampNeg y.toNatClampNeg)))) v M') (fun E M' => XP M (cd1 (rng x 6 && rng y 720)) ["java/lang/IndexOutOfBoundsException"] E M') := by
  refine CX.of hfl rfl (Nat.le_of_ble_eq_true rfl) ?_
  intro pp ee ss mm ar bw mt cd C hgX hr hno
  have hx := hws.2.1
  have hwx := hwt.2.2.2.1
  have h9 := hw.nc.2
  have h13 := hw.sh.2
  have h17 := hw.nl.2
  have h26 := hw.ne.2
  have h44 := hw.ng.2
  have h46 := hw.op.2
  have h51 := hw.np.2
  refine V.eLo (lo' := [(0, .ref (α 0)), (1, .int x), (2, .int y)]) rfl ?_
  have jn19 : V pp l ee ({ frames := 7, cells := 1, slots := 6, locals := 118 } : Room) ss mm ar bw mt cd G (vx_MQ bw (Ke G (fun v M' => PC τ G α M (cd1 (rng x 6 && rng y 720)) (τ) (some (.int (nI (leftN τ x.toNatClampNeg y.toNatClampNeg)))) v M')) (Kx G (fun E M' => XP M (cd1 (rng x 6 && rng y 720)) ["java/lang/IndexOutOfBoundsException"] E M')) ar ss 1 6 (gA G)) 3 M 0 0 19 [(0, .ref (α 0)), (1, .int x), (2, .int y)] [.int (bI (rng x 6 && rng y 720))] := by
    skip
    refine r_xS C hgX hno ml_X11_55 st_X11_needThere (c_X11_needThere l hfl G M (rng x 6 && rng y 720)) rfl (Nat.le_of_ble_eq_true rfl) ⟨Nat.le_of_ble_eq_true rfl, Nat.le_of_ble_eq_true rfl⟩ ⟨Nat.le_of_ble_eq_true rfl, Nat.le_of_ble_eq_true rfl⟩ dX11_leaveLeft_19 rfl (fun E_ M_ h_ => x_1 h_) ⟨Nat.le_of_ble_eq_true rfl, Nat.le_of_ble_eq_true rfl⟩ ?_
    rintro _ _ ⟨rfl, rfl, hq1⟩
    have hq := hq1
    obtain ⟨hqa, hqb⟩ := Bool.and_eq_true_iff.mp hq
    obtain ⟨c, hc, e_x⟩ := rng_t hqa
    obtain ⟨d, hd, e_y⟩ := rng_t hqb
    have hbp := (hws.2.2.1 c hc).1
    obtain ⟨nc, cn, nl, ln, ng, gn, pw1, pw2, pw3, pw4, pw5, pw6⟩ := hws.2.2.2.2.2.2.2.2.2.2.2.1 c hc
    refine V.eLo (lo' := [(0, .ref (α 0)), (1, .int (nI c)), (2, .int (nI d))]) (by rw [e_x, e_y]) ?_
    refine r_aload_n C 0 dX11_leaveLeft_22 rfl rfl ?_
    refine r_getR C (b := (α 2)) fl_X11_18 rfl (hx.k 0 14 rfl) (hx.r 0 1 2 rfl) dX11_leaveLeft_23 ?_
    refine r_iload_n C 1 dX11_leaveLeft_26 rfl rfl ?_
    refine r_aaloadN C (b := (hO α c 0)) 1 (by decide) (hx.k 2 24 rfl) (hx.n 2 6 rfl) (by omega) (by omega) (hws.2.2.1 c (by omega)).2 dX11_leaveLeft_27 ?_
    refine r_iload_n C 2 dX11_leaveLeft_28 rfl rfl ?_
    refine r_aload_n C 0 dX11_leaveLeft_29 rfl rfl ?_
    refine r_getI C fl_X11_152 rfl (hx.k 0 14 rfl) dX11_leaveLeft_30 ?_
    refine V.ei (y := nI (un τ 18 18)) (hwx.2.2.1) ?_
    refine r_aload_n C 0 dX11_leaveLeft_33 rfl rfl ?_
    refine r_getI C fl_X11_155 rfl (hx.k 0 14 rfl) dX11_leaveLeft_34 ?_
    refine V.ei (y := nI (un τ 19 19)) (hwx.2.2.2.1) ?_
    refine r_aload_n C 0 dX11_leaveLeft_37 rfl rfl ?_
    refine r_getI C fl_X11_158 rfl (hx.k 0 14 rfl) dX11_leaveLeft_38 ?_
    refine V.ei (y := nI (un τ 20 20)) (hwx.2.2.2.2.1) ?_
    refine r_callV C hgX (ci := 10) ml_X11_176 im_X8_takeLeave se_X8_takeLeave rfl rfl (hbp.k 0 11 rfl) (c_X8_takeLeave l hfl G M (hO α c) hbp τ hw c nc cn (fun i => cO α (cn i)) (pc_of hws hwt pw1 pw4) nl ln (fun i => lO α (ln i)) (pl_of hws hwt pw2 pw5) (dj_of hws.1 hw hc pw1 pw2) d (by omega)) rfl (Nat.le_of_ble_eq_true rfl) ⟨Nat.le_of_ble_eq_true rfl, Nat.le_of_ble_eq_true rfl⟩ ⟨Nat.le_of_ble_eq_true rfl, Nat.le_of_ble_eq_true rfl⟩ dX11_leaveLeft_41 rfl ?_
    rintro _ My2 ⟨hfm2, hlk2, hlt2, hlu2, x2, rfl, hxl2⟩
    refine V.eSt (st' := [.int x2]) rfl ?_
    have hxt := BX.tk BX.rf hws.1 hw pw2 hfm2 hlk2
    have hwbt := WB.tk hws.1 hw hc pw2 hwb hfm2 hlt2 hlu2
    refine V.ei (y := nI (leftN τ c d)) (hxl2 (by omega)) ?_
    refine V.xret ?_
    exact r_iret C hr (⟨k_1 hq, by rw [e_x, e_y, nI_clamp (n := c) (by omega), nI_clamp (n := d) (by omega)], ⟨α, ⟨hxt.ws hc hws, hxt.wt hw hws.1 hc hwt, hwbt⟩, rfl, CF.la pw2 hfm2, fun _ _ hz_ => hz_⟩⟩) (by first | exact Nat.zero_le _ | decide) (by first | exact Nat.zero_le _ | decide) dX11_leaveLeft_44
  refine r_iload_n C 1 dX11_leaveLeft_0 rfl rfl ?_
  refine r_callS C hgX ml_X11_45 st_X11_isPerson (c_X11_isPerson l hfl G M x) rfl (Nat.le_of_ble_eq_true rfl) ⟨Nat.le_of_ble_eq_true rfl, Nat.le_of_ble_eq_true rfl⟩ ⟨Nat.le_of_ble_eq_true rfl, Nat.le_of_ble_eq_true rfl⟩ dX11_leaveLeft_1 rfl ?_
  rintro _ _ ⟨rfl, rfl⟩
  refine V.eSt (st' := [.int (bI (rng x 6))]) rfl ?_
  refine r_if_eqB C (t := 18) dX11_leaveLeft_4 (by decide) (fun c4 => ?_) (fun c4 => ?_)
  · skip
    refine r_iconst C (v := nI 0) dX11_leaveLeft_18 (by decide) ?_
    refine V.eSt (st' := [.int (bI false)]) rfl ?_
    refine V.ei (y := bI (rng x 6 && rng y 720)) (congrArg bI (by simp [c4])) ?_
    exact jn19
  · skip
    refine r_iload_n C 2 dX11_leaveLeft_7 rfl rfl ?_
    refine r_callS C hgX ml_X11_52 st_X11_isDay (c_X11_isDay l hfl G M y) rfl (Nat.le_of_ble_eq_true rfl) ⟨Nat.le_of_ble_eq_true rfl, Nat.le_of_ble_eq_true rfl⟩ ⟨Nat.le_of_ble_eq_true rfl, Nat.le_of_ble_eq_true rfl⟩ dX11_leaveLeft_8 rfl ?_
    rintro _ _ ⟨rfl, rfl⟩
    refine V.eSt (st' := [.int (bI (rng y 720))]) rfl ?_
    refine r_if_eqB C (t := 18) dX11_leaveLeft_11 (by decide) (fun c11 => ?_) (fun c11 => ?_)
    · skip
      refine r_iconst C (v := nI 0) dX11_leaveLeft_18 (by decide) ?_
      refine V.eSt (st' := [.int (bI false)]) rfl ?_
      refine V.ei (y := bI (rng x 6 && rng y 720)) (congrArg bI (by simp [c4, c11])) ?_
      exact jn19
    · skip
      refine r_iconst C (v := nI 1) dX11_leaveLeft_14 (by decide) ?_
      refine r_goto C (t := 19) dX11_leaveLeft_15 (by decide) ?_
      refine V.eSt (st' := [.int (bI true)]) rfl ?_
      refine V.ei (y := bI (rng x 6 && rng y 720)) (congrArg bI (by simp [c4, c11])) ?_
      exact jn19
set_option maxHeartbeats 1000000 in
set_option maxRecDepth 100000 in
theorem c_X11_payment (l : Launch) (hfl : l.flags = flags0) (G : gW) (M : Mem) (τ : Mu) (hw : WF τ) (α : Nat → Nat) (hws : WS τ G α M) (hwt : WT τ α M) (hwb : WB τ α M) (had : ∀ p, p < 6 → AD τ p) (x y : Int32) : CX l yX11_payment cX11_payment 4 (some .long) 7 2 12 102 G M [.ref (α 0), .int x, .int y] (fun v M' => PC τ G α M (cd2 (rng x (un τ 51 51)) (inB y (lN 0) (lN 3))) (τ) (some (.long (pmL τ x.toNatClampNeg y.toNatClampNeg))) v M') (fun E M' => XP M (cd2 (rng x (un τ 51 51)) (inB y (lN 0) (lN 3))) ["java/lang/IndexOutOfBoundsException", "java/lang/IllegalArgumentException"] E M') := by
  refine CX.of hfl rfl (Nat.le_of_ble_eq_true rfl) ?_
  intro pp ee ss mm ar bw mt cd C hgX hr hno
  have hx := hws.2.1
  have hwx := hwt.2.2.2.1
  have h9 := hw.nc.2
  have h13 := hw.sh.2
  have h17 := hw.nl.2
  have h26 := hw.ne.2
  have h44 := hw.ng.2
  have h46 := hw.op.2
  have h51 := hw.np.2
  refine V.eLo (lo' := [(0, .ref (α 0)), (1, .int x), (2, .int y)]) rfl ?_
  refine r_aload_n C 0 dX11_payment_0 rfl rfl ?_
  refine r_iload_n C 1 dX11_payment_1 rfl rfl ?_
  refine r_callV C hgX (ci := 13) ml_X11_312 im_X11_isPayment se_X11_isPayment rfl rfl (hx.k 0 14 rfl) (c_X11_isPayment l hfl G M τ hw α hws hwt hwb had x) rfl (Nat.le_of_ble_eq_true rfl) ⟨Nat.le_of_ble_eq_true rfl, Nat.le_of_ble_eq_true rfl⟩ ⟨Nat.le_of_ble_eq_true rfl, Nat.le_of_ble_eq_true rfl⟩ dX11_payment_2 rfl ?_
  rintro _ _ ⟨rfl, rfl⟩
  refine V.eSt (st' := [.int (bI (rng x (un τ 51 51)))]) rfl ?_
  refine r_xS C hgX hno ml_X11_55 st_X11_needThere (c_X11_needThere l hfl G M (rng x (un τ 51 51))) rfl (Nat.le_of_ble_eq_true rfl) ⟨Nat.le_of_ble_eq_true rfl, Nat.le_of_ble_eq_true rfl⟩ ⟨Nat.le_of_ble_eq_true rfl, Nat.le_of_ble_eq_true rfl⟩ dX11_payment_5 rfl (fun E_ M_ h_ => x_2a h_) ⟨Nat.le_of_ble_eq_true rfl, Nat.le_of_ble_eq_true rfl⟩ ?_
  rintro _ _ ⟨rfl, rfl, hq1⟩
  have hq := hq1
  refine r_iload_n C 2 dX11_payment_8 rfl rfl ?_
  refine r_iconst C (v := nI 0) dX11_payment_9 (by decide) ?_
  refine r_iconst C (v := nI 3) dX11_payment_10 (by decide) ?_
  refine r_callS C hgX ml_X11_59 st_X11_isWithin (c_X11_isWithin l hfl G M y (nI 0) (nI 3)) rfl (Nat.le_of_ble_eq_true rfl) ⟨Nat.le_of_ble_eq_true rfl, Nat.le_of_ble_eq_true rfl⟩ ⟨Nat.le_of_ble_eq_true rfl, Nat.le_of_ble_eq_true rfl⟩ dX11_payment_11 rfl ?_
  rintro _ _ ⟨rfl, rfl⟩
  refine V.eSt (st' := [.int (bI (inB y (nI 0).toInt64 (nI 3).toInt64))]) rfl ?_
  refine V.ei (y := bI (inB y (lN 0) (lN 3))) rfl ?_
  refine r_xS C hgX hno ml_X11_64 st_X11_needFitting (c_X11_needFitting l hfl G M (inB y (lN 0) (lN 3))) rfl (Nat.le_of_ble_eq_true rfl) ⟨Nat.le_of_ble_eq_true rfl, Nat.le_of_ble_eq_true rfl⟩ ⟨Nat.le_of_ble_eq_true rfl, Nat.le_of_ble_eq_true rfl⟩ dX11_payment_14 rfl (fun E_ M_ h_ => x_2b hq h_) ⟨Nat.le_of_ble_eq_true rfl, Nat.le_of_ble_eq_true rfl⟩ ?_
  rintro _ _ ⟨rfl, rfl, hq2⟩
  have hq2 := hq2
  obtain ⟨c, hc, e_x⟩ := rng_t hq
  obtain ⟨d, hd0, hd, e_y⟩ := inB_N (by decide) (by decide) hq2
  have hyt := hwt.2.2.2.2.2.2 c hc
  have hyw := (hw.pw c hc).2
  have hym := (hw.pm c hc).2
  refine V.eLo (lo' := [(0, .ref (α 0)), (1, .int (nI c)), (2, .int (nI d))]) (by rw [e_x, e_y]) ?_
  refine r_aload_n C 0 dX11_payment_17 rfl rfl ?_
  refine r_getR C (b := (α 28)) fl_X11_38 rfl (hx.k 0 14 rfl) (hx.r 0 5 28 rfl) dX11_payment_18 ?_
  refine r_iload_n C 1 dX11_payment_21 rfl rfl ?_
  obtain ⟨d_, hd_, hkd_, hsn_, hn_, hri_⟩ := (hws.2.2.2.2.2.2.2.2.2.2.1).get (i := c) (by omega)
  refine r_callV C hgX (ci := 2) ml_X11_107 im_Jx4a65c_get_915e3 se_Jx4a65c_get_915e3 rfl rfl (hx.k 28 3 rfl) (c_Jx4a65c_get_915e3 l hfl G M (α 28) d_ _ c (yO α c) (un τ 51 51) (hws.2.2.2.2.2.2.2.2.2.2.1).1 hd_ (hws.2.2.2.2.2.2.2.2.2.2.1).2.1 hkd_ rfl hn_ hsn_ (by omega) hri_) rfl (Nat.le_of_ble_eq_true rfl) ⟨Nat.le_of_ble_eq_true rfl, Nat.le_of_ble_eq_true rfl⟩ ⟨Nat.le_of_ble_eq_true rfl, Nat.le_of_ble_eq_true rfl⟩ dX11_payment_22 rfl ?_
  rintro _ _ ⟨rfl, rfl⟩
  refine V.eSt (st' := [.ref (yO α c)]) rfl ?_
  refine r_cast C (ci := 9) rfl cl_X11_315 ((hws.2.2.2.2.2.2.2.1 c hc)) dX11_payment_25 ?_
  refine r_astore_n C (lo' := [(3, .ref (yO α c)), (0, .ref (α 0)), (1, .int (nI c)), (2, .int (nI d))]) dX11_payment_28 rfl (by decide) rfl ?_
  refine r_iload_n C 3 dX11_payment_29 rfl rfl ?_
  rcases (show d = 0 ∨ d = 1 ∨ d = 2 ∨ d = 3 from by omega) with sw30 | sw30 | sw30 | sw30
  · skip
    refine V.ei (y := nI 0) (congrArg nI sw30) ?_
    refine r_tabIn C (off := 26) (t := 56) dX11_payment_30 (by decide) (by decide) (by decide) (by decide) ?_
    refine r_aload_n C 0 dX11_payment_56 rfl rfl ?_
    refine r_getI C fl_X11_317 rfl (hws.2.2.2.2.2.2.2.1 c hc) dX11_payment_57 ?_
    refine V.ei (y := nI (un τ 47 c)) (hyt.1) ?_
    refine r_i2lN C (by omega) dX11_payment_60 ?_
    refine V.xret ?_
    exact r_lret C hr (⟨k_2 hq hq2, by rw [e_x, e_y, nI_clamp (n := c) (by omega), nI_clamp (n := d) (by omega)]; unfold pmL; rw [if_pos sw30], ⟨α, ⟨hws, hwt, hwb⟩, rfl, CF.rf, fun _ _ hz_ => hz_⟩⟩) (by first | exact Nat.zero_le _ | decide) (by first | exact Nat.zero_le _ | decide) dX11_payment_61
  · skip
    refine V.ei (y := nI 1) (congrArg nI sw30) ?_
    refine r_tabIn C (off := 32) (t := 62) dX11_payment_30 (by decide) (by decide) (by decide) (by decide) ?_
    refine r_aload_n C 0 dX11_payment_62 rfl rfl ?_
    refine r_getI C fl_X11_318 rfl (hws.2.2.2.2.2.2.2.1 c hc) dX11_payment_63 ?_
    refine V.ei (y := nI (un τ 48 c)) (hyt.2.1) ?_
    refine r_i2lN C (by omega) dX11_payment_66 ?_
    refine V.xret ?_
    exact r_lret C hr (⟨k_2 hq hq2, by rw [e_x, e_y, nI_clamp (n := c) (by omega), nI_clamp (n := d) (by omega)]; unfold pmL; rw [if_neg (by omega), if_pos sw30], ⟨α, ⟨hws, hwt, hwb⟩, rfl, CF.rf, fun _ _ hz_ => hz_⟩⟩) (by first | exact Nat.zero_le _ | decide) (by first | exact Nat.zero_le _ | decide) dX11_payment_67
  · skip
    refine V.ei (y := nI 2) (congrArg nI sw30) ?_
    refine r_tabIn C (off := 38) (t := 68) dX11_payment_30 (by decide) (by decide) (by decide) (by decide) ?_
    refine r_aload_n C 0 dX11_payment_68 rfl rfl ?_
    refine r_getL C fl_X11_321 rfl (hws.2.2.2.2.2.2.2.1 c hc) dX11_payment_69 ?_
    refine V.el (y := τ.2 49 c) (hyt.2.2.1) ?_
    refine V.xret ?_
    exact r_lret C hr (⟨k_2 hq hq2, by rw [e_x, e_y, nI_clamp (n := c) (by omega), nI_clamp (n := d) (by omega)]; unfold pmL; rw [if_neg (by omega), if_neg (by omega), if_pos sw30], ⟨α, ⟨hws, hwt, hwb⟩, rfl, CF.rf, fun _ _ hz_ => hz_⟩⟩) (by first | exact Nat.zero_le _ | decide) (by first | exact Nat.zero_le _ | decide) dX11_payment_72
  · skip
    refine V.ei (y := nI 3) (congrArg nI sw30) ?_
    refine r_tabOut C (t := 73) dX11_payment_30 (by decide) (by decide) ?_
    refine r_aload_n C 0 dX11_payment_73 rfl rfl ?_
    refine r_getI C fl_X11_324 rfl (hws.2.2.2.2.2.2.2.1 c hc) dX11_payment_74 ?_
    refine V.ei (y := bI (decide (un τ 50 c = 1))) (hyt.2.2.2) ?_
    refine r_if_eqB C (t := 84) dX11_payment_77 (by decide) (fun c77 => ?_) (fun c77 => ?_)
    · skip
      have c77d := of_decide_eq_false c77
      refine r_lconst C (v := lN 0) dX11_payment_84 (by decide) ?_
      refine V.xret ?_
      exact r_lret C hr (⟨k_2 hq hq2, by rw [e_x, e_y, nI_clamp (n := c) (by omega), nI_clamp (n := d) (by omega)]; unfold pmL; rw [if_neg (by omega), if_neg (by omega), if_neg (by omega), show un τ 50 c = 0 by have := of_decide_eq_false c77; have := (hw.pb c hc).2; omega], ⟨α, ⟨hws, hwt, hwb⟩, rfl, CF.rf, fun _ _ hz_ => hz_⟩⟩) (by first | exact Nat.zero_le _ | decide) (by first | exact Nat.zero_le _ | decide) dX11_payment_85
    · skip
      have c77d := of_decide_eq_true c77
      refine r_lconst C (v := lN 1) dX11_payment_80 (by decide) ?_
      refine r_goto C (t := 85) dX11_payment_81 (by decide) ?_
      refine V.xret ?_
      exact r_lret C hr (⟨k_2 hq hq2, by rw [e_x, e_y, nI_clamp (n := c) (by omega), nI_clamp (n := d) (by omega)]; unfold pmL; rw [if_neg (by omega), if_neg (by omega), if_neg (by omega), show un τ 50 c = 1 from of_decide_eq_true c77], ⟨α, ⟨hws, hwt, hwb⟩, rfl, CF.rf, fun _ _ hz_ => hz_⟩⟩) (by first | exact Nat.zero_le _ | decide) (by first | exact Nat.zero_le _ | decide) dX11_payment_85
set_option maxHeartbeats 1000000 in
set_option maxRecDepth 100000 in
theorem c_X11_yearTax (l : Launch) (hfl : l.flags = flags0) (G : gW) (M : Mem) (τ : Mu) (hw : WF τ) (α : Nat → Nat) (hws : WS τ G α M) (hwt : WT τ α M) (hwb : WB τ α M) (had : ∀ p, p < 6 → AD τ p) (x y z : Int32) (a : Int64) : CX l yX11_yearTax cX11_yearTax 6 (some .long) 7 2 12 102 G M [.ref (α 0), .int x, .int y, .int z, .long a] (fun v M' => PC τ G α M (cd2 (rng x 3 && rng z 24) (inB y (lN 0) (lN 1) && decide (lN 0 ≤ a ∧ a ≤ lN 10000000000))) (τ) (some (.long (yearL τ (48 * x.toNatClampNeg + 24 * y.toNatClampNeg) z.toNatClampNeg a))) v M') (fun E M' => XP M (cd2 (rng x 3 && rng z 24) (inB y (lN 0) (lN 1) && decide (lN 0 ≤ a ∧ a ≤ lN 10000000000))) ["java/lang/IndexOutOfBoundsException", "java/lang/IllegalArgumentException"] E M') := by
  refine CX.of hfl rfl (Nat.le_of_ble_eq_true rfl) ?_
  intro pp ee ss mm ar bw mt cd C hgX hr hno
  have hx := hws.2.1
  have hwx := hwt.2.2.2.1
  have h9 := hw.nc.2
  have h13 := hw.sh.2
  have h17 := hw.nl.2
  have h26 := hw.ne.2
  have h44 := hw.ng.2
  have h46 := hw.op.2
  have h51 := hw.np.2
  refine V.eLo (lo' := [(0, .ref (α 0)), (1, .int x), (2, .int y), (3, .int z), (4, .long a)]) rfl ?_
  have jn19 : V pp l ee ({ frames := 7, cells := 2, slots := 12, locals := 102 } : Room) ss mm ar bw mt cd G (vx_MQ bw (Ke G (fun v M' => PC τ G α M (cd2 (rng x 3 && rng z 24) (inB y (lN 0) (lN 1) && decide (lN 0 ≤ a ∧ a ≤ lN 10000000000))) (τ) (some (.long (yearL τ (48 * x.toNatClampNeg + 24 * y.toNatClampNeg) z.toNatClampNeg a))) v M')) (Kx G (fun E M' => XP M (cd2 (rng x 3 && rng z 24) (inB y (lN 0) (lN 1) && decide (lN 0 ≤ a ∧ a ≤ lN 10000000000))) ["java/lang/IndexOutOfBoundsException", "java/lang/IllegalArgumentException"] E M')) ar ss 2 12 (gA G)) 6 M 0 0 19 [(0, .ref (α 0)), (1, .int x), (2, .int y), (3, .int z), (4, .long a)] [.int (bI (rng x 3 && rng z 24))] := by
    skip
    refine r_xS C hgX hno ml_X11_55 st_X11_needThere (c_X11_needThere l hfl G M (rng x 3 && rng z 24)) rfl (Nat.le_of_ble_eq_true rfl) ⟨Nat.le_of_ble_eq_true rfl, Nat.le_of_ble_eq_true rfl⟩ ⟨Nat.le_of_ble_eq_true rfl, Nat.le_of_ble_eq_true rfl⟩ dX11_yearTax_19 rfl (fun E_ M_ h_ => x_2a h_) ⟨Nat.le_of_ble_eq_true rfl, Nat.le_of_ble_eq_true rfl⟩ ?_
    rintro _ _ ⟨rfl, rfl, hq1⟩
    have hq := hq1
    have jn50 : V pp l ee ({ frames := 7, cells := 2, slots := 12, locals := 102 } : Room) ss mm ar bw mt cd G (vx_MQ bw (Ke G (fun v M' => PC τ G α M (cd2 (rng x 3 && rng z 24) (inB y (lN 0) (lN 1) && decide (lN 0 ≤ a ∧ a ≤ lN 10000000000))) (τ) (some (.long (yearL τ (48 * x.toNatClampNeg + 24 * y.toNatClampNeg) z.toNatClampNeg a))) v M')) (Kx G (fun E M' => XP M (cd2 (rng x 3 && rng z 24) (inB y (lN 0) (lN 1) && decide (lN 0 ≤ a ∧ a ≤ lN 10000000000))) ["java/lang/IndexOutOfBoundsException", "java/lang/IllegalArgumentException"] E M')) ar ss 2 12 (gA G)) 6 M 1 6 50 [(0, .ref (α 0)), (1, .int x), (2, .int y), (3, .int z), (4, .long a)] [.int (bI (inB y (lN 0) (lN 1) && decide (lN 0 ≤ a ∧ a ≤ lN 10000000000)))] := by
      skip
      refine r_xS C hgX hno ml_X11_64 st_X11_needFitting (c_X11_needFitting l hfl G M (inB y (lN 0) (lN 1) && decide (lN 0 ≤ a ∧ a ≤ lN 10000000000))) rfl (Nat.le_of_ble_eq_true rfl) ⟨Nat.le_of_ble_eq_true rfl, Nat.le_of_ble_eq_true rfl⟩ ⟨Nat.le_of_ble_eq_true rfl, Nat.le_of_ble_eq_true rfl⟩ dX11_yearTax_50 rfl (fun E_ M_ h_ => x_2b hq h_) ⟨Nat.le_of_ble_eq_true rfl, Nat.le_of_ble_eq_true rfl⟩ ?_
      rintro _ _ ⟨rfl, rfl, hq2⟩
      have hq2 := hq2
      obtain ⟨hqa, hqb⟩ := Bool.and_eq_true_iff.mp hq
      obtain ⟨c, hc, e_x⟩ := rng_t hqa
      obtain ⟨d, hd, e_z⟩ := rng_t hqb
      obtain ⟨hqc, hqd⟩ := Bool.and_eq_true_iff.mp hq2
      obtain ⟨e, he0, he, e_y⟩ := inB_N (by decide) (by decide) hqc
      have hg := (hws.2.2.2.1 c hc).1
      refine V.eLo (lo' := [(0, .ref (α 0)), (1, .int (nI c)), (2, .int (nI e)), (3, .int (nI d)), (4, .long a)]) (by rw [e_x, e_y, e_z]) ?_
      refine r_aload_n C 0 dX11_yearTax_53 rfl rfl ?_
      refine r_getR C (b := (α 3)) fl_X11_24 rfl (hx.k 0 14 rfl) (hx.r 0 2 3 rfl) dX11_yearTax_54 ?_
      refine r_iload_n C 1 dX11_yearTax_57 rfl rfl ?_
      refine r_aaloadN C (b := (gO α c 0)) 2 (by decide) (hx.k 3 25 rfl) (hx.n 3 3 rfl) (by omega) (by omega) (hws.2.2.2.1 c (by omega)).2 dX11_yearTax_58 ?_
      refine r_getR C (b := (gO α c 7)) fl_X11_230 rfl (hg.k 0 12 rfl) (hg.r 0 2 7 rfl) dX11_yearTax_59 ?_
      refine r_iload_n C 2 dX11_yearTax_62 rfl rfl ?_
      refine r_aaloadN C (b := (gO α c (11 + 12 * e))) 0 (by decide) (hg.k 7 23 rfl) (hg.n 7 2 rfl) (by omega) (by omega) (hg.rp 7 11 2 12 rfl e (by omega)) dX11_yearTax_63 ?_
      refine r_lload C 4 dX11_yearTax_64 rfl ?_
      refine r_iload_n C 3 dX11_yearTax_66 rfl rfl ?_
      refine r_callV C hgX (ci := 4) ml_X11_252 im_X1_taxOn se_X1_taxOn rfl rfl ((hg.br e (by omega)).k 0 5 rfl) (c_X1_taxOn l hfl G M (fun o => gO α c (11 + 12 * e + o)) (hg.br e (by omega)) τ hw (48 * c + 24 * e) (by omega) ((hwt.2.2.1 c hc).2.2.1 e (by omega)) a d (by omega)) rfl (Nat.le_of_ble_eq_true rfl) ⟨Nat.le_of_ble_eq_true rfl, Nat.le_of_ble_eq_true rfl⟩ ⟨Nat.le_of_ble_eq_true rfl, Nat.le_of_ble_eq_true rfl⟩ dX11_yearTax_67 rfl ?_
      rintro _ _ ⟨rfl, rfl⟩
      refine V.eSt (st' := [.long (yearL τ (48 * c + 24 * e) d a)]) rfl ?_
      refine V.xret ?_
      exact r_lret C hr (⟨k_2 hq hq2, by rw [e_x, e_y, e_z, nI_clamp (n := c) (by omega), nI_clamp (n := e) (by omega), nI_clamp (n := d) (by omega)], ⟨α, ⟨hws, hwt, hwb⟩, rfl, CF.rf, fun _ _ hz_ => hz_⟩⟩) (by first | exact Nat.zero_le _ | decide) (by first | exact Nat.zero_le _ | decide) dX11_yearTax_70
    refine r_iload_n C 2 dX11_yearTax_22 rfl rfl ?_
    refine r_callS C hgX ml_X11_226 st_X11_isState (c_X11_isState l hfl G M y) rfl (Nat.le_of_ble_eq_true rfl) ⟨Nat.le_of_ble_eq_true rfl, Nat.le_of_ble_eq_true rfl⟩ ⟨Nat.le_of_ble_eq_true rfl, Nat.le_of_ble_eq_true rfl⟩ dX11_yearTax_23 rfl ?_
    rintro _ _ ⟨rfl, rfl⟩
    refine V.eSt (st' := [.int (bI (rng y 2))]) rfl ?_
    refine V.ei (y := bI (inB y (lN 0) (lN 1))) (congrArg bI (rng_in y 2 (lN 1) rfl).symm) ?_
    refine r_if_eqB C (t := 49) dX11_yearTax_26 (by decide) (fun c26 => ?_) (fun c26 => ?_)
    · skip
      refine r_iconst C (v := nI 0) dX11_yearTax_49 (by decide) ?_
      refine V.eSt (st' := [.int (bI false)]) rfl ?_
      refine V.ei (y := bI (inB y (lN 0) (lN 1) && decide (lN 0 ≤ a ∧ a ≤ lN 10000000000))) (congrArg bI (by rw [c26]; rfl)) ?_
      exact jn50
    · skip
      refine r_lload C 4 dX11_yearTax_29 rfl ?_
      refine r_lconst C (v := lN 0) dX11_yearTax_31 (by decide) ?_
      refine r_lcmp_lt C (t := 49) dX11_yearTax_32 dX11_yearTax_33 (by decide) (fun c33 => ?_) (fun c33 => ?_)
      · skip
        refine r_iconst C (v := nI 0) dX11_yearTax_49 (by decide) ?_
        refine V.eSt (st' := [.int (bI false)]) rfl ?_
        refine V.ei (y := bI (inB y (lN 0) (lN 1) && decide (lN 0 ≤ a ∧ a ≤ lN 10000000000))) (congrArg bI (by rw [c26, Bool.true_and, a_lo c33])) ?_
        exact jn50
      · skip
        refine r_lload C 4 dX11_yearTax_36 rfl ?_
        refine r_ldc2 C (v := 10000000000) kl_X11_250 dX11_yearTax_38 ?_
        refine V.el (y := lN 10000000000) (by decide) ?_
        refine r_lcmp_gt C (t := 49) dX11_yearTax_41 dX11_yearTax_42 (by decide) (fun c42 => ?_) (fun c42 => ?_)
        · skip
          refine r_iconst C (v := nI 0) dX11_yearTax_49 (by decide) ?_
          refine V.eSt (st' := [.int (bI false)]) rfl ?_
          refine V.ei (y := bI (inB y (lN 0) (lN 1) && decide (lN 0 ≤ a ∧ a ≤ lN 10000000000))) (congrArg bI (by rw [c26, Bool.true_and, a_hi c42])) ?_
          exact jn50
        · skip
          refine r_iconst C (v := nI 1) dX11_yearTax_45 (by decide) ?_
          refine r_goto C (t := 50) dX11_yearTax_46 (by decide) ?_
          refine V.eSt (st' := [.int (bI true)]) rfl ?_
          refine V.ei (y := bI (inB y (lN 0) (lN 1) && decide (lN 0 ≤ a ∧ a ≤ lN 10000000000))) (congrArg bI (by rw [c26, a_in c33 c42]; rfl)) ?_
          exact jn50
  refine r_iload_n C 1 dX11_yearTax_0 rfl rfl ?_
  refine r_callS C hgX ml_X11_49 st_X11_isPlace (c_X11_isPlace l hfl G M x) rfl (Nat.le_of_ble_eq_true rfl) ⟨Nat.le_of_ble_eq_true rfl, Nat.le_of_ble_eq_true rfl⟩ ⟨Nat.le_of_ble_eq_true rfl, Nat.le_of_ble_eq_true rfl⟩ dX11_yearTax_1 rfl ?_
  rintro _ _ ⟨rfl, rfl⟩
  refine V.eSt (st' := [.int (bI (rng x 3))]) rfl ?_
  refine r_if_eqB C (t := 18) dX11_yearTax_4 (by decide) (fun c4 => ?_) (fun c4 => ?_)
  · skip
    refine r_iconst C (v := nI 0) dX11_yearTax_18 (by decide) ?_
    refine V.eSt (st' := [.int (bI false)]) rfl ?_
    refine V.ei (y := bI (rng x 3 && rng z 24)) (congrArg bI (by simp [c4])) ?_
    exact jn19
  · skip
    refine r_iload_n C 3 dX11_yearTax_7 rfl rfl ?_
    refine r_callS C hgX ml_X11_141 st_X11_isMonth (c_X11_isMonth l hfl G M z) rfl (Nat.le_of_ble_eq_true rfl) ⟨Nat.le_of_ble_eq_true rfl, Nat.le_of_ble_eq_true rfl⟩ ⟨Nat.le_of_ble_eq_true rfl, Nat.le_of_ble_eq_true rfl⟩ dX11_yearTax_8 rfl ?_
    rintro _ _ ⟨rfl, rfl⟩
    refine V.eSt (st' := [.int (bI (rng z 24))]) rfl ?_
    refine r_if_eqB C (t := 18) dX11_yearTax_11 (by decide) (fun c11 => ?_) (fun c11 => ?_)
    · skip
      refine r_iconst C (v := nI 0) dX11_yearTax_18 (by decide) ?_
      refine V.eSt (st' := [.int (bI false)]) rfl ?_
      refine V.ei (y := bI (rng x 3 && rng z 24)) (congrArg bI (by simp [c4, c11])) ?_
      exact jn19
    · skip
      refine r_iconst C (v := nI 1) dX11_yearTax_14 (by decide) ?_
      refine r_goto C (t := 19) dX11_yearTax_15 (by decide) ?_
      refine V.eSt (st' := [.int (bI true)]) rfl ?_
      refine V.ei (y := bI (rng x 3 && rng z 24)) (congrArg bI (by simp [c4, c11])) ?_
      exact jn19

