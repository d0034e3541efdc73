set_option maxHeartbeats 1000000 in
set_option maxRecDepth 100000 in
theorem c_X11_isElement (l : Launch) (hfl : l.flags = flags0) (G : gW) (M : Mem) (τ : Mu) (hw : WF τ) (α : Nat → Nat) (hws : WS τ G α M) (hwt : WT τ α M) (hwb : WB τ α M) (had : ∀ p, p < 6 → AD τ p) (x : Int32) : CT l yX11_isElement cX11_isElement 2 (some .boolean) 0 0 0 0 G M [.ref (α 0), .int x] (fun v M' => v = some (.int (bI (rng x (un τ 26 26)))) ∧ M = M') := by
  refine CT.of hfl rfl (Nat.le_of_ble_eq_true rfl) ?_
  intro pp ee ss mm ar bw mt cd C hgX hr hini
  have hx := hws.2.1
  have hwx := hwt.2.2.2.1
  have hel := hws.el
  have h9 := hw.nc.2
  have h26 := hw.ne.2
  have h46 := hw.op.2
  have h51 := hw.np.2
  refine V.eLo (lo' := [(0, .ref (α 0)), (1, .int x)]) rfl ?_
  refine r_iload_n C 1 dX11_isElement_0 rfl rfl ?_
  refine r_if_lt C (t := 19) dX11_isElement_1 (by decide) (fun c1 => ?_) (fun c1 => ?_)
  · skip
    refine r_iconst C (v := nI 0) dX11_isElement_19 (by decide) ?_
    exact r_zret C hr (by decide) (⟨congrArg (fun z => some (Value.int z)) (rg_f1 (by first | exact c1 | simpa using c1)).symm, rfl⟩) (by first | exact Nat.zero_le _ | decide) (by first | exact Nat.zero_le _ | decide) dX11_isElement_20
  · skip
    refine r_iload_n C 1 dX11_isElement_4 rfl rfl ?_
    refine r_aload_n C 0 dX11_isElement_5 rfl rfl ?_
    refine r_getR C (b := (eO α 0)) fl_X11_31 rfl (hx.k 0 14 rfl) (hx.r 0 3 4 rfl) dX11_isElement_6 ?_
    refine r_getI C fl_X11_190 rfl (hel.k 0 7 rfl) dX11_isElement_9 ?_
    refine V.ei (y := nI (un τ 26 26)) (hwx.2.2.2.2.2.2.1) ?_
    refine r_icmp_ge C (t := 19) dX11_isElement_12 (by decide) (fun c12 => ?_) (fun c12 => ?_)
    · skip
      refine r_iconst C (v := nI 0) dX11_isElement_19 (by decide) ?_
      exact r_zret C hr (by decide) (⟨congrArg (fun z => some (Value.int z)) (rg_f2 (by omega) (by first | exact c12 | simpa using c12)).symm, rfl⟩) (by first | exact Nat.zero_le _ | decide) (by first | exact Nat.zero_le _ | decide) dX11_isElement_20
    · skip
      refine r_iconst C (v := nI 1) dX11_isElement_15 (by decide) ?_
      refine r_goto C (t := 20) dX11_isElement_16 (by decide) ?_
      exact r_zret C hr (by decide) (⟨congrArg (fun z => some (Value.int z)) (rg_t (by omega) (by first | exact c1 | simpa using c1) (by first | exact c12 | simpa using c12)).symm, rfl⟩) (by first | exact Nat.zero_le _ | decide) (by first | exact Nat.zero_le _ | decide) dX11_isElement_20
set_option maxHeartbeats 1000000 in
set_option maxRecDepth 100000 in
theorem c_X11_isContract (l : Launch) (hfl : l.flags = flags0) (G : gW) (M : Mem) (τ : Mu) (hw : WF τ) (α : Nat → Nat) (hws : WS τ G α M) (hwt : WT τ α M) (hwb : WB τ α M) (had : ∀ p, p < 6 → AD τ p) (x : Int32) : CT l yX11_isContract cX11_isContract 2 (some .boolean) 1 0 0 20 G M [.ref (α 0), .int x] (fun v M' => v = some (.int (bI (rng x (un τ 9 9)))) ∧ M = M') := by
  refine CT.of hfl rfl (Nat.le_of_ble_eq_true rfl) ?_
  intro pp ee ss mm ar bw mt cd C hgX hr hini
  have hx := hws.2.1
  have hwx := hwt.2.2.2.1
  have hel := hws.el
  have h9 := hw.nc.2
  have h26 := hw.ne.2
  have h46 := hw.op.2
  have h51 := hw.np.2
  refine V.eLo (lo' := [(0, .ref (α 0)), (1, .int x)]) rfl ?_
  refine r_iload_n C 1 dX11_isContract_0 rfl rfl ?_
  refine r_if_lt C (t := 19) dX11_isContract_1 (by decide) (fun c1 => ?_) (fun c1 => ?_)
  · skip
    refine r_iconst C (v := nI 0) dX11_isContract_19 (by decide) ?_
    exact r_zret C hr (by decide) (⟨congrArg (fun z => some (Value.int z)) (rg_f1 (by first | exact c1 | simpa using c1)).symm, rfl⟩) (by first | exact Nat.zero_le _ | decide) (by first | exact Nat.zero_le _ | decide) dX11_isContract_20
  · skip
    refine r_iload_n C 1 dX11_isContract_4 rfl rfl ?_
    refine r_aload_n C 0 dX11_isContract_5 rfl rfl ?_
    refine r_getR C (b := (α 1)) fl_X11_10 rfl (hx.k 0 14 rfl) (hx.r 0 0 1 rfl) dX11_isContract_6 ?_
    refine r_callV C hgX (ci := 2) ml_X11_67 im_Jx4a65c_size_8abf5 se_Jx4a65c_size_8abf5 rfl rfl (hx.k 1 3 rfl) (c_Jx4a65c_size_8abf5 l hfl G M (α 1) (un τ 9 9) hws.2.2.2.2.2.2.2.2.1.1 hws.2.2.2.2.2.2.2.2.1.2.1) rfl (Nat.le_of_ble_eq_true rfl) ⟨Nat.le_of_ble_eq_true rfl, Nat.le_of_ble_eq_true rfl⟩ ⟨Nat.le_of_ble_eq_true rfl, Nat.le_of_ble_eq_true rfl⟩ dX11_isContract_9 rfl ?_
    rintro _ _ ⟨rfl, rfl⟩
    refine V.eSt (st' := [.int (nI (un τ 9 9)), .int x]) rfl ?_
    refine r_icmp_ge C (t := 19) dX11_isContract_12 (by decide) (fun c12 => ?_) (fun c12 => ?_)
    · skip
      refine r_iconst C (v := nI 0) dX11_isContract_19 (by decide) ?_
      exact r_zret C hr (by decide) (⟨congrArg (fun z => some (Value.int z)) (rg_f2 (by omega) (by first | exact c12 | simpa using c12)).symm, rfl⟩) (by first | exact Nat.zero_le _ | decide) (by first | exact Nat.zero_le _ | decide) dX11_isContract_20
    · skip
      refine r_iconst C (v := nI 1) dX11_isContract_15 (by decide) ?_
      refine r_goto C (t := 20) dX11_isContract_16 (by decide) ?_
      exact r_zret C hr (by decide) (⟨congrArg (fun z => some (Value.int z)) (rg_t (by omega) (by first | exact c1 | simpa using c1) (by first | exact c12 | simpa using c12)).symm, rfl⟩) (by first | exact Nat.zero_le _ | decide) (by first | exact Nat.zero_le _ | decide) dX11_isContract_20
set_option maxHeartbeats 1000000 in
set_option maxRecDepth 100000 in
theorem c_X11_isPayment (l : Launch) (hfl : l.flags = flags0) (G : gW) (M : Mem) (τ : Mu) (hw : WF τ) (α : Nat → Nat) (hws : WS τ G α M) (hwt : WT τ α M) (hwb : WB τ α M) (had : ∀ p, p < 6 → AD τ p) (x : Int32) : CT l yX11_isPayment cX11_isPayment 2 (some .boolean) 1 0 0 20 G M [.ref (α 0), .int x] (fun v M' => v = some (.int (bI (rng x (un τ 51 51)))) ∧ M = M') := by
  refine CT.of hfl rfl (Nat.le_of_ble_eq_true rfl) ?_
  intro pp ee ss mm ar bw mt cd C hgX hr hini
  have hx := hws.2.1
  have hwx := hwt.2.2.2.1
  have hel := hws.el
  have h9 := hw.nc.2
  have h26 := hw.ne.2
  have h46 := hw.op.2
  have h51 := hw.np.2
  refine V.eLo (lo' := [(0, .ref (α 0)), (1, .int x)]) rfl ?_
  refine r_iload_n C 1 dX11_isPayment_0 rfl rfl ?_
  refine r_if_lt C (t := 19) dX11_isPayment_1 (by decide) (fun c1 => ?_) (fun c1 => ?_)
  · skip
    refine r_iconst C (v := nI 0) dX11_isPayment_19 (by decide) ?_
    exact r_zret C hr (by decide) (⟨congrArg (fun z => some (Value.int z)) (rg_f1 (by first | exact c1 | simpa using c1)).symm, rfl⟩) (by first | exact Nat.zero_le _ | decide) (by first | exact Nat.zero_le _ | decide) dX11_isPayment_20
  · skip
    refine r_iload_n C 1 dX11_isPayment_4 rfl rfl ?_
    refine r_aload_n C 0 dX11_isPayment_5 rfl rfl ?_
    refine r_getR C (b := (α 28)) fl_X11_38 rfl (hx.k 0 14 rfl) (hx.r 0 5 28 rfl) dX11_isPayment_6 ?_
    refine r_callV C hgX (ci := 2) ml_X11_67 im_Jx4a65c_size_8abf5 se_Jx4a65c_size_8abf5 rfl rfl (hx.k 28 3 rfl) (c_Jx4a65c_size_8abf5 l hfl G M (α 28) (un τ 51 51) hws.2.2.2.2.2.2.2.2.2.2.1.1 hws.2.2.2.2.2.2.2.2.2.2.1.2.1) rfl (Nat.le_of_ble_eq_true rfl) ⟨Nat.le_of_ble_eq_true rfl, Nat.le_of_ble_eq_true rfl⟩ ⟨Nat.le_of_ble_eq_true rfl, Nat.le_of_ble_eq_true rfl⟩ dX11_isPayment_9 rfl ?_
    rintro _ _ ⟨rfl, rfl⟩
    refine V.eSt (st' := [.int (nI (un τ 51 51)), .int x]) rfl ?_
    refine r_icmp_ge C (t := 19) dX11_isPayment_12 (by decide) (fun c12 => ?_) (fun c12 => ?_)
    · skip
      refine r_iconst C (v := nI 0) dX11_isPayment_19 (by decide) ?_
      exact r_zret C hr (by decide) (⟨congrArg (fun z => some (Value.int z)) (rg_f2 (by omega) (by first | exact c12 | simpa using c12)).symm, rfl⟩) (by first | exact Nat.zero_le _ | decide) (by first | exact Nat.zero_le _ | decide) dX11_isPayment_20
    · skip
      refine r_iconst C (v := nI 1) dX11_isPayment_15 (by decide) ?_
      refine r_goto C (t := 20) dX11_isPayment_16 (by decide) ?_
      exact r_zret C hr (by decide) (⟨congrArg (fun z => some (Value.int z)) (rg_t (by omega) (by first | exact c1 | simpa using c1) (by first | exact c12 | simpa using c12)).symm, rfl⟩) (by first | exact Nat.zero_le _ | decide) (by first | exact Nat.zero_le _ | decide) dX11_isPayment_20
set_option maxHeartbeats 1000000 in
set_option maxRecDepth 100000 in
theorem c_X11_order (l : Launch) (hfl : l.flags = flags0) (G : gW) (M : Mem) (τ : Mu) (hw : WF τ) (α : Nat → Nat) (hws : WS τ G α M) (hwt : WT τ α M) (hwb : WB τ α M) (had : ∀ p, p < 6 → AD τ p) (x : Int32) : CX l yX11_order cX11_order 2 (some .int) 7 1 6 102 G M [.ref (α 0), .int x] (fun v M' => PC τ G α M (cd1 (rng x (un τ 26 26))) (τ) (some (.int (nI (un τ 27 x.toNatClampNeg)))) v M') (fun E M' => XP M (cd1 (rng x (un τ 26 26))) ["java/lang/IndexOutOfBoundsException"] E M') := by
  refine CX.of hfl rfl (Nat.le_of_ble_eq_true rfl) ?_
  intro pp ee ss mm ar bw mt cd C hgX hr hno
  have hx := hws.2.1
  have hwx := hwt.2.2.2.1
  have h9 := hw.nc.2
  have h13 := hw.sh.2
  have h17 := hw.nl.2
  have h26 := hw.ne.2
  have h44 := hw.ng.2
  have h46 := hw.op.2
  have h51 := hw.np.2
  have hel := hws.el
  refine V.eLo (lo' := [(0, .ref (α 0)), (1, .int x)]) rfl ?_
  refine r_aload_n C 0 dX11_order_0 rfl rfl ?_
  refine r_iload_n C 1 dX11_order_1 rfl rfl ?_
  refine r_callV C hgX (ci := 13) ml_X11_207 im_X11_isElement se_X11_isElement rfl rfl (hx.k 0 14 rfl) (c_X11_isElement l hfl G M τ hw α hws hwt hwb had x) rfl (Nat.le_of_ble_eq_true rfl) ⟨Nat.le_of_ble_eq_true rfl, Nat.le_of_ble_eq_true rfl⟩ ⟨Nat.le_of_ble_eq_true rfl, Nat.le_of_ble_eq_true rfl⟩ dX11_order_2 rfl ?_
  rintro _ _ ⟨rfl, rfl⟩
  refine V.eSt (st' := [.int (bI (rng x (un τ 26 26)))]) rfl ?_
  refine r_xS C hgX hno ml_X11_55 st_X11_needThere (c_X11_needThere l hfl G M (rng x (un τ 26 26))) rfl (Nat.le_of_ble_eq_true rfl) ⟨Nat.le_of_ble_eq_true rfl, Nat.le_of_ble_eq_true rfl⟩ ⟨Nat.le_of_ble_eq_true rfl, Nat.le_of_ble_eq_true rfl⟩ dX11_order_5 rfl (fun E_ M_ h_ => x_1 h_) ⟨Nat.le_of_ble_eq_true rfl, Nat.le_of_ble_eq_true rfl⟩ ?_
  rintro _ _ ⟨rfl, rfl, hq1⟩
  have hq := hq1
  obtain ⟨c, hc, e_x⟩ := rng_t hq
  refine V.eLo (lo' := [(0, .ref (α 0)), (1, .int (nI c))]) (by rw [e_x]) ?_
  refine r_aload_n C 0 dX11_order_8 rfl rfl ?_
  refine r_getR C (b := (eO α 0)) fl_X11_31 rfl (hx.k 0 14 rfl) (hx.r 0 3 4 rfl) dX11_order_9 ?_
  refine r_getR C (b := (eO α 20)) fl_X11_210 rfl (hel.k 0 7 rfl) (hel.r 0 7 20 rfl) dX11_order_12 ?_
  refine r_iload_n C 1 dX11_order_15 rfl rfl ?_
  refine r_ialoadN C (hel.k 20 20 rfl) (hel.n 20 6 rfl) (by omega) (by omega) dX11_order_16 ?_
  refine V.ei (y := nI (un τ 27 c)) (hwx.2.2.2.2.2.2.2.2.2.2.2.2.2 c hc) ?_
  refine V.xret ?_
  exact r_iret C hr (⟨k_1 hq, by rw [e_x, nI_clamp (n := c) (by omega)], ⟨α, ⟨hws, hwt, hwb⟩, rfl, CF.rf, fun _ _ hz_ => hz_⟩⟩) (by first | exact Nat.zero_le _ | decide) (by first | exact Nat.zero_le _ | decide) dX11_order_17
set_option maxHeartbeats 1000000 in
set_option maxRecDepth 100000 in
theorem c_X11_minutes (l : Launch) (hfl : l.flags = flags0) (G : gW) (M : Mem) (τ : Mu) (hw : WF τ) (α : Nat → Nat) (hws : WS τ G α M) (hwt : WT τ α M) (hwb : WB τ α M) (had : ∀ p, p < 6 → AD τ p) (x y : Int32) : CX l yX11_minutes cX11_minutes 3 (some .int) 7 1 6 102 G M [.ref (α 0), .int x, .int y] (fun v M' => PC τ G α M (cd1 (rng x (un τ 9 9) && rng y 720)) (τ) (some (.int (τ.1 8 (720 * x.toNatClampNeg + y.toNatClampNeg)))) v M') (fun E M' => XP M (cd1 (rng x (un τ 9 9) && rng y 720)) ["java/lang/IndexOutOfBoundsException"] E M') := by
  refine CX.of hfl rfl (Nat.le_of_ble_eq_true rfl) ?_
  intro pp ee ss mm ar bw mt cd C hgX hr hno
  have hx := hws.2.1
  have hwx := hwt.2.2.2.1
  have h9 := hw.nc.2
  have h13 := hw.sh.2
  have h17 := hw.nl.2
  have h26 := hw.ne.2
  have h44 := hw.ng.2
  have h46 := hw.op.2
  have h51 := hw.np.2
  refine V.eLo (lo' := [(0, .ref (α 0)), (1, .int x), (2, .int y)]) rfl ?_
  have jn20 : V pp l ee ({ frames := 7, cells := 1, slots := 6, locals := 102 } : Room) ss mm ar bw mt cd G (vx_MQ bw (Ke G (fun v M' => PC τ G α M (cd1 (rng x (un τ 9 9) && rng y 720)) (τ) (some (.int (τ.1 8 (720 * x.toNatClampNeg + y.toNatClampNeg)))) v M')) (Kx G (fun E M' => XP M (cd1 (rng x (un τ 9 9) && rng y 720)) ["java/lang/IndexOutOfBoundsException"] E M')) ar ss 1 6 (gA G)) 3 M 0 0 20 [(0, .ref (α 0)), (1, .int x), (2, .int y)] [.int (bI (rng x (un τ 9 9) && rng y 720))] := by
    skip
    refine r_xS C hgX hno ml_X11_55 st_X11_needThere (c_X11_needThere l hfl G M (rng x (un τ 9 9) && rng y 720)) rfl (Nat.le_of_ble_eq_true rfl) ⟨Nat.le_of_ble_eq_true rfl, Nat.le_of_ble_eq_true rfl⟩ ⟨Nat.le_of_ble_eq_true rfl, Nat.le_of_ble_eq_true rfl⟩ dX11_minutes_20 rfl (fun E_ M_ h_ => x_1 h_) ⟨Nat.le_of_ble_eq_true rfl, Nat.le_of_ble_eq_true rfl⟩ ?_
    rintro _ _ ⟨rfl, rfl, hq1⟩
    have hq := hq1
    obtain ⟨hqa, hqb⟩ := Bool.and_eq_true_iff.mp hq
    obtain ⟨c, hc, e_x⟩ := rng_t hqa
    obtain ⟨d, hd, e_y⟩ := rng_t hqb
    have hco := hws.2.2.2.2.1 c hc
    have hcf := (hwt.1 c hc).1
    refine V.eLo (lo' := [(0, .ref (α 0)), (1, .int (nI c)), (2, .int (nI d))]) (by rw [e_x, e_y]) ?_
    refine r_aload_n C 0 dX11_minutes_23 rfl rfl ?_
    refine r_getR C (b := (α 1)) fl_X11_10 rfl (hx.k 0 14 rfl) (hx.r 0 0 1 rfl) dX11_minutes_24 ?_
    refine r_iload_n C 1 dX11_minutes_27 rfl rfl ?_
    obtain ⟨d_, hd_, hkd_, hsn_, hn_, hri_⟩ := (hws.2.2.2.2.2.2.2.2.1).get (i := c) (by omega)
    refine r_callV C hgX (ci := 2) ml_X11_107 im_Jx4a65c_get_915e3 se_Jx4a65c_get_915e3 rfl rfl (hx.k 1 3 rfl) (c_Jx4a65c_get_915e3 l hfl G M (α 1) d_ _ c (cO α c 0) (un τ 9 9) (hws.2.2.2.2.2.2.2.2.1).1 hd_ (hws.2.2.2.2.2.2.2.2.1).2.1 hkd_ rfl hn_ hsn_ (by omega) hri_) rfl (Nat.le_of_ble_eq_true rfl) ⟨Nat.le_of_ble_eq_true rfl, Nat.le_of_ble_eq_true rfl⟩ ⟨Nat.le_of_ble_eq_true rfl, Nat.le_of_ble_eq_true rfl⟩ dX11_minutes_28 rfl ?_
    rintro _ _ ⟨rfl, rfl⟩
    refine V.eSt (st' := [.ref (cO α c 0)]) rfl ?_
    refine r_cast C (ci := 5) rfl cl_X11_74 ((hco.k 0 6 rfl)) dX11_minutes_31 ?_
    refine r_getR C (b := (cO α c 4)) fl_X11_133 rfl (hco.k 0 6 rfl) (hco.r 0 7 4 rfl) dX11_minutes_34 ?_
    refine r_iload_n C 2 dX11_minutes_37 rfl rfl ?_
    refine r_ialoadN C (hco.k 4 20 rfl) (hco.n 4 720 rfl) (by omega) (by omega) dX11_minutes_38 ?_
    refine V.ei (y := τ.1 8 (720 * c + d)) ((hcf.2.2.2.2.2.2.2 d hd).trans (hw.mn _ (by omega)).1.symm) ?_
    refine V.xret ?_
    exact r_iret C hr (⟨k_1 hq, by rw [e_x, e_y, nI_clamp (n := c) (by omega), nI_clamp (n := d) (by omega)], ⟨α, ⟨hws, hwt, hwb⟩, rfl, CF.rf, fun _ _ hz_ => hz_⟩⟩) (by first | exact Nat.zero_le _ | decide) (by first | exact Nat.zero_le _ | decide) dX11_minutes_39
  refine r_aload_n C 0 dX11_minutes_0 rfl rfl ?_
  refine r_iload_n C 1 dX11_minutes_1 rfl rfl ?_
  refine r_callV C hgX (ci := 13) ml_X11_104 im_X11_isContract se_X11_isContract rfl rfl (hx.k 0 14 rfl) (c_X11_isContract l hfl G M τ hw α hws hwt hwb had x) rfl (Nat.le_of_ble_eq_true rfl) ⟨Nat.le_of_ble_eq_true rfl, Nat.le_of_ble_eq_true rfl⟩ ⟨Nat.le_of_ble_eq_true rfl, Nat.le_of_ble_eq_true rfl⟩ dX11_minutes_2 rfl ?_
  rintro _ _ ⟨rfl, rfl⟩
  refine V.eSt (st' := [.int (bI (rng x (un τ 9 9)))]) rfl ?_
  refine r_if_eqB C (t := 19) dX11_minutes_5 (by decide) (fun c5 => ?_) (fun c5 => ?_)
  · skip
    refine r_iconst C (v := nI 0) dX11_minutes_19 (by decide) ?_
    refine V.eSt (st' := [.int (bI false)]) rfl ?_
    refine V.ei (y := bI (rng x (un τ 9 9) && rng y 720)) (congrArg bI (by simp [c5])) ?_
    exact jn20
  · skip
    refine r_iload_n C 2 dX11_minutes_8 rfl rfl ?_
    refine r_callS C hgX ml_X11_52 st_X11_isDay (c_X11_isDay l hfl G M y) rfl (Nat.le_of_ble_eq_true rfl) ⟨Nat.le_of_ble_eq_true rfl, Nat.le_of_ble_eq_true rfl⟩ ⟨Nat.le_of_ble_eq_true rfl, Nat.le_of_ble_eq_true rfl⟩ dX11_minutes_9 rfl ?_
    rintro _ _ ⟨rfl, rfl⟩
    refine V.eSt (st' := [.int (bI (rng y 720))]) rfl ?_
    refine r_if_eqB C (t := 19) dX11_minutes_12 (by decide) (fun c12 => ?_) (fun c12 => ?_)
    · skip
      refine r_iconst C (v := nI 0) dX11_minutes_19 (by decide) ?_
      refine V.eSt (st' := [.int (bI false)]) rfl ?_
      refine V.ei (y := bI (rng x (un τ 9 9) && rng y 720)) (congrArg bI (by simp [c5, c12])) ?_
      exact jn20
    · skip
      refine r_iconst C (v := nI 1) dX11_minutes_15 (by decide) ?_
      refine r_goto C (t := 20) dX11_minutes_16 (by decide) ?_
      refine V.eSt (st' := [.int (bI true)]) rfl ?_
      refine V.ei (y := bI (rng x (un τ 9 9) && rng y 720)) (congrArg bI (by simp [c5, c12])) ?_
      exact jn20
set_option maxHeartbeats 1000000 in
set_option maxRecDepth 100000 in
theorem c_X11_overtime (l : Launch) (hfl : l.flags = flags0) (G : gW) (M : Mem) (τ : Mu) (hw : WF τ) (α : Nat → Nat) (hws : WS τ G α M) (hwt : WT τ α M) (hwb : WB τ α M) (had : ∀ p, p < 6 → AD τ p) (x y : Int32) : CX l yX11_overtime cX11_overtime 3 (some .int) 7 1 6 102 G M [.ref (α 0), .int x, .int y] (fun v M' => PC τ G α M (cd1 (rng x (un τ 9 9) && inB y (lN 0) (lN 102))) (τ) (some (.int (nI (overN τ x.toNatClampNeg y.toNatClampNeg)))) v M') (fun E M' => XP M (cd1 (rng x (un τ 9 9) && inB y (lN 0) (lN 102))) ["java/lang/IndexOutOfBoundsException"] E M') := by
  refine CX.of hfl rfl (Nat.le_of_ble_eq_true rfl) ?_
  intro pp ee ss mm ar bw mt cd C hgX hr hno
  have hx := hws.2.1
  have hwx := hwt.2.2.2.1
  have h9 := hw.nc.2
  have h13 := hw.sh.2
  have h17 := hw.nl.2
  have h26 := hw.ne.2
  have h44 := hw.ng.2
  have h46 := hw.op.2
  have h51 := hw.np.2
  refine V.eLo (lo' := [(0, .ref (α 0)), (1, .int x), (2, .int y)]) rfl ?_
  have jn23 : V pp l ee ({ frames := 7, cells := 1, slots := 6, locals := 102 } : Room) ss mm ar bw mt cd G (vx_MQ bw (Ke G (fun v M' => PC τ G α M (cd1 (rng x (un τ 9 9) && inB y (lN 0) (lN 102))) (τ) (some (.int (nI (overN τ x.toNatClampNeg y.toNatClampNeg)))) v M')) (Kx G (fun E M' => XP M (cd1 (rng x (un τ 9 9) && inB y (lN 0) (lN 102))) ["java/lang/IndexOutOfBoundsException"] E M')) ar ss 1 6 (gA G)) 3 M 0 0 23 [(0, .ref (α 0)), (1, .int x), (2, .int y)] [.int (bI (rng x (un τ 9 9) && inB y (lN 0) (lN 102)))] := by
    skip
    refine r_xS C hgX hno ml_X11_55 st_X11_needThere (c_X11_needThere l hfl G M (rng x (un τ 9 9) && inB y (lN 0) (lN 102))) rfl (Nat.le_of_ble_eq_true rfl) ⟨Nat.le_of_ble_eq_true rfl, Nat.le_of_ble_eq_true rfl⟩ ⟨Nat.le_of_ble_eq_true rfl, Nat.le_of_ble_eq_true rfl⟩ dX11_overtime_23 rfl (fun E_ M_ h_ => x_1 h_) ⟨Nat.le_of_ble_eq_true rfl, Nat.le_of_ble_eq_true rfl⟩ ?_
    rintro _ _ ⟨rfl, rfl, hq1⟩
    have hq := hq1
    obtain ⟨hqa, hqb⟩ := Bool.and_eq_true_iff.mp hq
    obtain ⟨c, hc, e_x⟩ := rng_t hqa
    obtain ⟨d, hd0, hd, e_y⟩ := inB_N (by decide) (by decide) hqb
    have hco := hws.2.2.2.2.1 c hc
    have hcf := (hwt.1 c hc).1
    refine V.eLo (lo' := [(0, .ref (α 0)), (1, .int (nI c)), (2, .int (nI d))]) (by rw [e_x, e_y]) ?_
    refine r_aload_n C 0 dX11_overtime_26 rfl rfl ?_
    refine r_getR C (b := (α 1)) fl_X11_10 rfl (hx.k 0 14 rfl) (hx.r 0 0 1 rfl) dX11_overtime_27 ?_
    refine r_iload_n C 1 dX11_overtime_30 rfl rfl ?_
    obtain ⟨d_, hd_, hkd_, hsn_, hn_, hri_⟩ := (hws.2.2.2.2.2.2.2.2.1).get (i := c) (by omega)
    refine r_callV C hgX (ci := 2) ml_X11_107 im_Jx4a65c_get_915e3 se_Jx4a65c_get_915e3 rfl rfl (hx.k 1 3 rfl) (c_Jx4a65c_get_915e3 l hfl G M (α 1) d_ _ c (cO α c 0) (un τ 9 9) (hws.2.2.2.2.2.2.2.2.1).1 hd_ (hws.2.2.2.2.2.2.2.2.1).2.1 hkd_ rfl hn_ hsn_ (by omega) hri_) rfl (Nat.le_of_ble_eq_true rfl) ⟨Nat.le_of_ble_eq_true rfl, Nat.le_of_ble_eq_true rfl⟩ ⟨Nat.le_of_ble_eq_true rfl, Nat.le_of_ble_eq_true rfl⟩ dX11_overtime_31 rfl ?_
    rintro _ _ ⟨rfl, rfl⟩
    refine V.eSt (st' := [.ref (cO α c 0)]) rfl ?_
    refine r_cast C (ci := 5) rfl cl_X11_74 ((hco.k 0 6 rfl)) dX11_overtime_34 ?_
    refine r_iload_n C 2 dX11_overtime_37 rfl rfl ?_
    refine r_callV C hgX (ci := 5) ml_X11_137 im_X3_overtimeIn se_X3_overtimeIn rfl rfl (hco.k 0 6 rfl) (c_X3_overtimeIn l hfl G M (cO α c) hco τ hw c hc hcf d (by omega)) rfl (Nat.le_of_ble_eq_true rfl) ⟨Nat.le_of_ble_eq_true rfl, Nat.le_of_ble_eq_true rfl⟩ ⟨Nat.le_of_ble_eq_true rfl, Nat.le_of_ble_eq_true rfl⟩ dX11_overtime_38 rfl ?_
    rintro _ _ ⟨rfl, rfl⟩
    refine V.eSt (st' := [.int (nI (overN τ c d))]) rfl ?_
    refine V.xret ?_
    exact r_iret C hr (⟨k_1 hq, by rw [e_x, e_y, nI_clamp (n := c) (by omega), nI_clamp (n := d) (by omega)], ⟨α, ⟨hws, hwt, hwb⟩, rfl, CF.rf, fun _ _ hz_ => hz_⟩⟩) (by first | exact Nat.zero_le _ | decide) (by first | exact Nat.zero_le _ | decide) dX11_overtime_41
  refine r_aload_n C 0 dX11_overtime_0 rfl rfl ?_
  refine r_iload_n C 1 dX11_overtime_1 rfl rfl ?_
  refine r_callV C hgX (ci := 13) ml_X11_104 im_X11_isContract se_X11_isContract rfl rfl (hx.k 0 14 rfl) (c_X11_isContract l hfl G M τ hw α hws hwt hwb had x) rfl (Nat.le_of_ble_eq_true rfl) ⟨Nat.le_of_ble_eq_true rfl, Nat.le_of_ble_eq_true rfl⟩ ⟨Nat.le_of_ble_eq_true rfl, Nat.le_of_ble_eq_true rfl⟩ dX11_overtime_2 rfl ?_
  rintro _ _ ⟨rfl, rfl⟩
  refine V.eSt (st' := [.int (bI (rng x (un τ 9 9)))]) rfl ?_
  refine r_if_eqB C (t := 22) dX11_overtime_5 (by decide) (fun c5 => ?_) (fun c5 => ?_)
  · skip
    refine r_iconst C (v := nI 0) dX11_overtime_22 (by decide) ?_
    refine V.eSt (st' := [.int (bI false)]) rfl ?_
    refine V.ei (y := bI (rng x (un τ 9 9) && inB y (lN 0) (lN 102))) (congrArg bI (by simp [c5])) ?_
    exact jn23
  · skip
    refine r_iload_n C 2 dX11_overtime_8 rfl rfl ?_
    refine r_iconst C (v := nI 0) dX11_overtime_9 (by decide) ?_
    refine r_bipush C (v := nI 102) dX11_overtime_10 (by decide) ?_
    refine r_callS C hgX ml_X11_59 st_X11_isWithin (c_X11_isWithin l hfl G M y (nI 0) (nI 102)) rfl (Nat.le_of_ble_eq_true rfl) ⟨Nat.le_of_ble_eq_true rfl, Nat.le_of_ble_eq_true rfl⟩ ⟨Nat.le_of_ble_eq_true rfl, Nat.le_of_ble_eq_true rfl⟩ dX11_overtime_12 rfl ?_
    rintro _ _ ⟨rfl, rfl⟩
    refine V.eSt (st' := [.int (bI (inB y (nI 0).toInt64 (nI 102).toInt64))]) rfl ?_
    refine V.ei (y := bI (inB y (lN 0) (lN 102))) rfl ?_
    refine r_if_eqB C (t := 22) dX11_overtime_15 (by decide) (fun c15 => ?_) (fun c15 => ?_)
    · skip
      refine r_iconst C (v := nI 0) dX11_overtime_22 (by decide) ?_
      refine V.eSt (st' := [.int (bI false)]) rfl ?_
      refine V.ei (y := bI (rng x (un τ 9 9) && inB y (lN 0) (lN 102))) (congrArg bI (by simp [c5, c15])) ?_
      exact jn23
    · skip
      refine r_iconst C (v := nI 1) dX11_overtime_18 (by decide) ?_
      refine r_goto C (t := 23) dX11_overtime_19 (by decide) ?_
      refine V.eSt (st' := [.int (bI true)]) rfl ?_
      refine V.ei (y := bI (rng x (un τ 9 9) && inB y (lN 0) (lN 102))) (congrArg bI (by simp [c5, c15])) ?_
      exact jn23
set_option maxHeartbeats 1000000 in
set_option maxRecDepth 100000 in
theorem c_X11_base (l : Launch) (hfl : l.flags = flags0) (G : gW) (M : Mem) (τ : Mu) (hw : WF τ) (α : Nat → Nat) (hws : WS τ G α M) (hwt : WT τ α M) (hwb : WB τ α M) (had : ∀ p, p < 6 → AD τ p) (x y : Int32) : CX l yX11_base cX11_base 4 (some .long) 7 1 6 188 G M [.ref (α 0), .int x, .int y] (fun v M' => PC τ G α M (cd1 (rng x (un τ 9 9) && rng y 24)) (τ) (some (.long (lN (baseN τ (ltN τ) x.toNatClampNeg y.toNatClampNeg)))) v M') (fun E M' => XP M (cd1 (rng x (un τ 9 9) && rng y 24)) ["java/lang/IndexOutOfBoundsException"] E M') := by
  refine CX.of hfl rfl (Nat.le_of_ble_eq_true rfl) ?_
  intro pp ee ss mm ar bw mt cd C hgX hr hno
  have hx := hws.2.1
  have hwx := hwt.2.2.2.1
  have h9 := hw.nc.2
  have h13 := hw.sh.2
  have h17 := hw.nl.2
  have h26 := hw.ne.2
  have h44 := hw.ng.2
  have h46 := hw.op.2
  have h51 := hw.np.2
  refine V.eLo (lo' := [(0, .ref (α 0)), (1, .int x), (2, .int y)]) rfl ?_
  have jn20 : V pp l ee ({ frames := 7, cells := 1, slots := 6, locals := 188 } : Room) ss mm ar bw mt cd G (vx_MQ bw (Ke G (fun v M' => PC τ G α M (cd1 (rng x (un τ 9 9) && rng y 24)) (τ) (some (.long (lN (baseN τ (ltN τ) x.toNatClampNeg y.toNatClampNeg)))) v M')) (Kx G (fun E M' => XP M (cd1 (rng x (un τ 9 9) && rng y 24)) ["java/lang/IndexOutOfBoundsException"] E M')) ar ss 1 6 (gA G)) 4 M 0 0 20 [(0, .ref (α 0)), (1, .int x), (2, .int y)] [.int (bI (rng x (un τ 9 9) && rng y 24))] := by
    skip
    refine r_xS C hgX hno ml_X11_55 st_X11_needThere (c_X11_needThere l hfl G M (rng x (un τ 9 9) && rng y 24)) rfl (Nat.le_of_ble_eq_true rfl) ⟨Nat.le_of_ble_eq_true rfl, Nat.le_of_ble_eq_true rfl⟩ ⟨Nat.le_of_ble_eq_true rfl, Nat.le_of_ble_eq_true rfl⟩ dX11_base_20 rfl (fun E_ M_ h_ => x_1 h_) ⟨Nat.le_of_ble_eq_true rfl, Nat.le_of_ble_eq_true rfl⟩ ?_
    rintro _ _ ⟨rfl, rfl, hq1⟩
    have hq := hq1
    obtain ⟨hqa, hqb⟩ := Bool.and_eq_true_iff.mp hq
    obtain ⟨c, hc, e_x⟩ := rng_t hqa
    obtain ⟨d, hd, e_y⟩ := rng_t hqb
    have hco := hws.2.2.2.2.1 c hc
    have hcf := (hwt.1 c hc).1
    have hp0 : un τ 0 c < 6 := by have := (hw.cw c hc).2; omega
    refine V.eLo (lo' := [(0, .ref (α 0)), (1, .int (nI c)), (2, .int (nI d))]) (by rw [e_x, e_y]) ?_
    refine r_aload_n C 0 dX11_base_23 rfl rfl ?_
    refine r_getR C (b := (α 1)) fl_X11_10 rfl (hx.k 0 14 rfl) (hx.r 0 0 1 rfl) dX11_base_24 ?_
    refine r_iload_n C 1 dX11_base_27 rfl rfl ?_
    obtain ⟨d_, hd_, hkd_, hsn_, hn_, hri_⟩ := (hws.2.2.2.2.2.2.2.2.1).get (i := c) (by omega)
    refine r_callV C hgX (ci := 2) ml_X11_107 im_Jx4a65c_get_915e3 se_Jx4a65c_get_915e3 rfl rfl (hx.k 1 3 rfl) (c_Jx4a65c_get_915e3 l hfl G M (α 1) d_ _ c (cO α c 0) (un τ 9 9) (hws.2.2.2.2.2.2.2.2.1).1 hd_ (hws.2.2.2.2.2.2.2.2.1).2.1 hkd_ rfl hn_ hsn_ (by omega) hri_) rfl (Nat.le_of_ble_eq_true rfl) ⟨Nat.le_of_ble_eq_true rfl, Nat.le_of_ble_eq_true rfl⟩ ⟨Nat.le_of_ble_eq_true rfl, Nat.le_of_ble_eq_true rfl⟩ dX11_base_28 rfl ?_
    rintro _ _ ⟨rfl, rfl⟩
    refine V.eSt (st' := [.ref (cO α c 0)]) rfl ?_
    refine r_cast C (ci := 5) rfl cl_X11_74 ((hco.k 0 6 rfl)) dX11_base_31 ?_
    refine r_astore_n C (lo' := [(3, .ref (cO α c 0)), (0, .ref (α 0)), (1, .int (nI c)), (2, .int (nI d))]) dX11_base_34 rfl (by decide) rfl ?_
    refine r_aload_n C 1 dX11_base_35 rfl rfl ?_
    refine r_aload_n C 0 dX11_base_36 rfl rfl ?_
    refine r_getI C fl_X11_115 rfl (hco.k 0 6 rfl) dX11_base_37 ?_
    refine V.ei (y := nI (un τ 0 c)) (hcf.1) ?_
    refine r_callV C hgX (ci := 13) ml_X11_144 im_X11_bookOf se_X11_bookOf rfl rfl (hx.k 0 14 rfl) (c_X11_bookOf l hfl G M τ hw α hws hwt hwb had (un τ 0 c) hp0) rfl (Nat.le_of_ble_eq_true rfl) ⟨Nat.le_of_ble_eq_true rfl, Nat.le_of_ble_eq_true rfl⟩ ⟨Nat.le_of_ble_eq_true rfl, Nat.le_of_ble_eq_true rfl⟩ dX11_base_40 rfl ?_
    rintro _ My2 ⟨rfl, hbx2, hws2, hwt2, hwb2, hbz2⟩
    refine V.eSt (st' := [.ref (bO α (un τ 0 c) 0)]) rfl ?_
    have hbf := hwb2.2 _ hp0 hbz2
    have hbk := hws2.bk hp0
    have hco := hbx2.1.blk hco
    refine r_pop C dX11_base_43 rfl ?_
    refine r_aload_n C 0 dX11_base_44 rfl rfl ?_
    refine r_iload_n C 3 dX11_base_45 rfl rfl ?_
    refine r_callV C hgX (ci := 5) ml_X11_148 im_X3_baseIn se_X3_baseIn rfl rfl (hco.k 0 6 rfl) (c_X3_baseIn l hfl G My2 (cO α c) hco d (by omega)) rfl (Nat.le_of_ble_eq_true rfl) ⟨Nat.le_of_ble_eq_true rfl, Nat.le_of_ble_eq_true rfl⟩ ⟨Nat.le_of_ble_eq_true rfl, Nat.le_of_ble_eq_true rfl⟩ dX11_base_46 rfl ?_
    rintro _ _ ⟨rfl, rfl⟩
    refine V.eSt (st' := [.long (mL My2 (cO α c 7) d + mL My2 (cO α c 9) d)]) rfl ?_
    refine V.el (y := lN (baseN τ (ltN τ) c d)) (by rw [((hbf.2.2.1 c hc rfl).1 d hd).1, (hbf.2.2.1 c hc rfl).2 d hd, lN_add]; rfl) ?_
    refine V.xret ?_
    exact r_lret C hr (⟨k_1 hq, by rw [e_x, e_y, nI_clamp (n := c) (by omega), nI_clamp (n := d) (by omega)], ⟨α, ⟨hws2, hwt2, hwb2⟩, rfl, CF.bx hp0 hbx2, fun _ _ hz_ => hz_⟩⟩) (by first | exact Nat.zero_le _ | decide) (by first | exact Nat.zero_le _ | decide) dX11_base_49
  refine r_aload_n C 0 dX11_base_0 rfl rfl ?_
  refine r_iload_n C 1 dX11_base_1 rfl rfl ?_
  refine r_callV C hgX (ci := 13) ml_X11_104 im_X11_isContract se_X11_isContract rfl rfl (hx.k 0 14 rfl) (c_X11_isContract l hfl G M τ hw α hws hwt hwb had x) rfl (Nat.le_of_ble_eq_true rfl) ⟨Nat.le_of_ble_eq_true rfl, Nat.le_of_ble_eq_true rfl⟩ ⟨Nat.le_of_ble_eq_true rfl, Nat.le_of_ble_eq_true rfl⟩ dX11_base_2 rfl ?_
  rintro _ _ ⟨rfl, rfl⟩
  refine V.eSt (st' := [.int (bI (rng x (un τ 9 9)))]) rfl ?_
  refine r_if_eqB C (t := 19) dX11_base_5 (by decide) (fun c5 => ?_) (fun c5 => ?_)
  · skip
    refine r_iconst C (v := nI 0) dX11_base_19 (by decide) ?_
    refine V.eSt (st' := [.int (bI false)]) rfl ?_
    refine V.ei (y := bI (rng x (un τ 9 9) && rng y 24)) (congrArg bI (by simp [c5])) ?_
    exact jn20
  · skip
    refine r_iload_n C 2 dX11_base_8 rfl rfl ?_
    refine r_callS C hgX ml_X11_141 st_X11_isMonth (c_X11_isMonth l hfl G M y) rfl (Nat.le_of_ble_eq_true rfl) ⟨Nat.le_of_ble_eq_true rfl, Nat.le_of_ble_eq_true rfl⟩ ⟨Nat.le_of_ble_eq_true rfl, Nat.le_of_ble_eq_true rfl⟩ dX11_base_9 rfl ?_
    rintro _ _ ⟨rfl, rfl⟩
    refine V.eSt (st' := [.int (bI (rng y 24))]) rfl ?_
    refine r_if_eqB C (t := 19) dX11_base_12 (by decide) (fun c12 => ?_) (fun c12 => ?_)
    · skip
      refine r_iconst C (v := nI 0) dX11_base_19 (by decide) ?_
      refine V.eSt (st' := [.int (bI false)]) rfl ?_
      refine V.ei (y := bI (rng x (un τ 9 9) && rng y 24)) (congrArg bI (by simp [c5, c12])) ?_
      exact jn20
    · skip
      refine r_iconst C (v := nI 1) dX11_base_15 (by decide) ?_
      refine r_goto C (t := 20) dX11_base_16 (by decide) ?_
      refine V.eSt (st' := [.int (bI true)]) rfl ?_
      refine V.ei (y := bI (rng x (un τ 9 9) && rng y 24)) (congrArg bI (by simp [c5, c12])) ?_
      exact jn20
set_option maxHeartbeats 1000000 in
set_option maxRecDepth 100000 in
theorem c_X11_elementOf (l : Launch) (hfl : l.flags = flags0) (G : gW) (M : Mem) (τ : Mu) (hw : WF τ) (α : Nat → Nat) (hws : WS τ G α M) (hwt : WT τ α M) (hwb : WB τ α M) (had : ∀ p, p < 6 → AD τ p) (x y z : Int32) : CX l yX11_elementOf cX11_elementOf 4 (some .long) 7 1 6 188 G M [.ref (α 0), .int x, .int y, .int z] (fun v M' => PC τ G α M (cd1 (rng x (un τ 26 26) && rng y 6 && rng z 24)) (τ) (some (.long (elL τ y.toNatClampNeg z.toNatClampNeg x.toNatClampNeg))) v M') (fun E M' => XP M (cd1 (rng x (un τ 26 26) && rng y 6 && rng z 24)) ["java/lang/IndexOutOfBoundsException"] E M') := by
  refine CX.of hfl rfl (Nat.le_of_ble_eq_true rfl) ?_
  intro pp ee ss mm ar bw mt cd C hgX hr hno
  have hx := hws.2.1
  have hwx := hwt.2.2.2.1
  have h9 := hw.nc.2
  have h13 := hw.sh.2
  have h17 := hw.nl.2
  have h26 := hw.ne.2
  have h44 := hw.ng.2
  have h46 := hw.op.2
  have h51 := hw.np.2
  refine V.eLo (lo' := [(0, .ref (α 0)), (1, .int x), (2, .int y), (3, .int z)]) rfl ?_
  have jn27 : V pp l ee ({ frames := 7, cells := 1, slots := 6, locals := 188 } : Room) ss mm ar bw mt cd G (vx_MQ bw (Ke G (fun v M' => PC τ G α M (cd1 (rng x (un τ 26 26) && rng y 6 && rng z 24)) (τ) (some (.long (elL τ y.toNatClampNeg z.toNatClampNeg x.toNatClampNeg))) v M')) (Kx G (fun E M' => XP M (cd1 (rng x (un τ 26 26) && rng y 6 && rng z 24)) ["java/lang/IndexOutOfBoundsException"] E M')) ar ss 1 6 (gA G)) 4 M 0 0 27 [(0, .ref (α 0)), (1, .int x), (2, .int y), (3, .int z)] [.int (bI (rng x (un τ 26 26) && rng y 6 && rng z 24))] := by
    skip
    refine r_xS C hgX hno ml_X11_55 st_X11_needThere (c_X11_needThere l hfl G M (rng x (un τ 26 26) && rng y 6 && rng z 24)) rfl (Nat.le_of_ble_eq_true rfl) ⟨Nat.le_of_ble_eq_true rfl, Nat.le_of_ble_eq_true rfl⟩ ⟨Nat.le_of_ble_eq_true rfl, Nat.le_of_ble_eq_true rfl⟩ dX11_elementOf_27 rfl (fun E_ M_ h_ => x_1 h_) ⟨Nat.le_of_ble_eq_true rfl, Nat.le_of_ble_eq_true rfl⟩ ?_
    rintro _ _ ⟨rfl, rfl, hq1⟩
    have hq := hq1
    obtain ⟨hqa, hqb⟩ := Bool.and_eq_true_iff.mp hq
    obtain ⟨hqa, hqc⟩ := Bool.and_eq_true_iff.mp hqa
    obtain ⟨e, he, e_x⟩ := rng_t hqa
    obtain ⟨c, hp0, e_y⟩ := rng_t hqc
    obtain ⟨d, hd, e_z⟩ := rng_t hqb
    refine V.eLo (lo' := [(0, .ref (α 0)), (1, .int (nI e)), (2, .int (nI c)), (3, .int (nI d))]) (by rw [e_x, e_y, e_z]) ?_
    refine r_aload_n C 0 dX11_elementOf_30 rfl rfl ?_
    refine r_iload_n C 2 dX11_elementOf_31 rfl rfl ?_
    refine r_callV C hgX (ci := 13) ml_X11_144 im_X11_bookOf se_X11_bookOf rfl rfl (hx.k 0 14 rfl) (c_X11_bookOf l hfl G M τ hw α hws hwt hwb had c hp0) rfl (Nat.le_of_ble_eq_true rfl) ⟨Nat.le_of_ble_eq_true rfl, Nat.le_of_ble_eq_true rfl⟩ ⟨Nat.le_of_ble_eq_true rfl, Nat.le_of_ble_eq_true rfl⟩ dX11_elementOf_32 rfl ?_
    rintro _ My2 ⟨rfl, hbx2, hws2, hwt2, hwb2, hbz2⟩
    refine V.eSt (st' := [.ref (bO α c 0)]) rfl ?_
    have hbf := hwb2.2 _ hp0 hbz2
    have hbk := hws2.bk hp0
    refine r_getR C (b := (bO α c 29)) fl_X11_264 rfl (hbk.k 0 4 rfl) (hbk.r 0 8 29 rfl) dX11_elementOf_35 ?_
    refine r_iload_n C 1 dX11_elementOf_38 rfl rfl ?_
    refine r_aaloadN C (b := (bO α c (30 + e))) 5 (by decide) (hbk.k 29 28 rfl) (hbk.n 29 6 rfl) (by omega) (by omega) (hbk.ro 29 30 6 1 rfl e (by omega)) dX11_elementOf_39 ?_
    refine r_iload_n C 3 dX11_elementOf_40 rfl rfl ?_
    refine r_laloadN C (hbk.ko 30 21 6 rfl e (by omega)) (hbk.no 30 24 6 rfl e (by omega)) (by omega) (by omega) dX11_elementOf_41 ?_
    refine V.el (y := elL τ c d e) ((hbf.1 d hd).2.2.1 e (by omega)) ?_
    refine V.xret ?_
    exact r_lret C hr (⟨k_1 hq, by rw [e_x, e_y, e_z, nI_clamp (n := e) (by omega), nI_clamp (n := c) (by omega), nI_clamp (n := d) (by omega)], ⟨α, ⟨hws2, hwt2, hwb2⟩, rfl, CF.bx hp0 hbx2, fun _ _ hz_ => hz_⟩⟩) (by first | exact Nat.zero_le _ | decide) (by first | exact Nat.zero_le _ | decide) dX11_elementOf_42
  refine r_aload_n C 0 dX11_elementOf_0 rfl rfl ?_
  refine r_iload_n C 1 dX11_elementOf_1 rfl rfl ?_
  refine r_callV C hgX (ci := 13) ml_X11_207 im_X11_isElement se_X11_isElement rfl rfl (hx.k 0 14 rfl) (c_X11_isElement l hfl G M τ hw α hws hwt hwb had x) rfl (Nat.le_of_ble_eq_true rfl) ⟨Nat.le_of_ble_eq_true rfl, Nat.le_of_ble_eq_true rfl⟩ ⟨Nat.le_of_ble_eq_true rfl, Nat.le_of_ble_eq_true rfl⟩ dX11_elementOf_2 rfl ?_
  rintro _ _ ⟨rfl, rfl⟩
  refine V.eSt (st' := [.int (bI (rng x (un τ 26 26)))]) rfl ?_
  refine r_if_eqB C (t := 26) dX11_elementOf_5 (by decide) (fun c5 => ?_) (fun c5 => ?_)
  · skip
    refine r_iconst C (v := nI 0) dX11_elementOf_26 (by decide) ?_
    refine V.eSt (st' := [.int (bI false)]) rfl ?_
    refine V.ei (y := bI (rng x (un τ 26 26) && rng y 6 && rng z 24)) (congrArg bI (by simp [c5])) ?_
    exact jn27
  · skip
    refine r_iload_n C 2 dX11_elementOf_8 rfl rfl ?_
    refine r_callS C hgX ml_X11_45 st_X11_isPerson (c_X11_isPerson l hfl G M y) rfl (Nat.le_of_ble_eq_true rfl) ⟨Nat.le_of_ble_eq_true rfl, Nat.le_of_ble_eq_true rfl⟩ ⟨Nat.le_of_ble_eq_true rfl, Nat.le_of_ble_eq_true rfl⟩ dX11_elementOf_9 rfl ?_
    rintro _ _ ⟨rfl, rfl⟩
    refine V.eSt (st' := [.int (bI (rng y 6))]) rfl ?_
    refine r_if_eqB C (t := 26) dX11_elementOf_12 (by decide) (fun c12 => ?_) (fun c12 => ?_)
    · skip
      refine r_iconst C (v := nI 0) dX11_elementOf_26 (by decide) ?_
      refine V.eSt (st' := [.int (bI false)]) rfl ?_
      refine V.ei (y := bI (rng x (un τ 26 26) && rng y 6 && rng z 24)) (congrArg bI (by simp [c5, c12])) ?_
      exact jn27
    · skip
      refine r_iload_n C 3 dX11_elementOf_15 rfl rfl ?_
      refine r_callS C hgX ml_X11_141 st_X11_isMonth (c_X11_isMonth l hfl G M z) rfl (Nat.le_of_ble_eq_true rfl) ⟨Nat.le_of_ble_eq_true rfl, Nat.le_of_ble_eq_true rfl⟩ ⟨Nat.le_of_ble_eq_true rfl, Nat.le_of_ble_eq_true rfl⟩ dX11_elementOf_16 rfl ?_
      rintro _ _ ⟨rfl, rfl⟩
      refine V.eSt (st' := [.int (bI (rng z 24))]) rfl ?_
      refine r_if_eqB C (t := 26) dX11_elementOf_19 (by decide) (fun c19 => ?_) (fun c19 => ?_)
      · skip
        refine r_iconst C (v := nI 0) dX11_elementOf_26 (by decide) ?_
        refine V.eSt (st' := [.int (bI false)]) rfl ?_
        refine V.ei (y := bI (rng x (un τ 26 26) && rng y 6 && rng z 24)) (congrArg bI (by simp [c5, c12, c19])) ?_
        exact jn27
      · skip
        refine r_iconst C (v := nI 1) dX11_elementOf_22 (by decide) ?_
        refine r_goto C (t := 27) dX11_elementOf_23 (by decide) ?_
        refine V.eSt (st' := [.int (bI true)]) rfl ?_
        refine V.ei (y := bI (rng x (un τ 26 26) && rng y 6 && rng z 24)) (congrArg bI (by simp [c5, c12, c19])) ?_
        exact jn27
set_option maxHeartbeats 1000000 in
set_option maxRecDepth 100000 in
theorem c_X11_pensionOf (l : Launch) (hfl : l.flags = flags0) (G : gW) (M : Mem) (τ : Mu) (hw : WF τ) (α : Nat → Nat) (hws : WS τ G α M) (hwt : WT τ α M) (hwb : WB τ α M) (had : ∀ p, p < 6 → AD τ p) (x y : Int32) : CX l yX11_pensionOf cX11_pensionOf 3 (some .long) 7 1 6 188 G M [.ref (α 0), .int x, .int y] (fun v M' => PC τ G α M (cd1 (rng x 6 && rng y 24)) (τ) (some (.long (pfL τ x.toNatClampNeg y.toNatClampNeg))) v M') (fun E M' => XP M (cd1 (rng x 6 && rng y 24)) ["java/lang/IndexOutOfBoundsException"] E M') := by
  refine CX.of hfl rfl (Nat.le_of_ble_eq_true rfl) ?_
  intro pp ee ss mm ar bw mt cd C hgX hr hno
  have hx := hws.2.1
  have hwx := hwt.2.2.2.1
  have h9 := hw.nc.2
  have h13 := hw.sh.2
  have h17 := hw.nl.2
  have h26 := hw.ne.2
  have h44 := hw.ng.2
  have h46 := hw.op.2
  have h51 := hw.np.2
  refine V.eLo (lo' := [(0, .ref (α 0)), (1, .int x), (2, .int y)]) rfl ?_
  have jn19 : V pp l ee ({ frames := 7, cells := 1, slots := 6, locals := 188 } : Room) ss mm ar bw mt cd G (vx_MQ bw (Ke G (fun v M' => PC τ G α M (cd1 (rng x 6 && rng y 24)) (τ) (some (.long (pfL τ x.toNatClampNeg y.toNatClampNeg))) v M')) (Kx G (fun E M' => XP M (cd1 (rng x 6 && rng y 24)) ["java/lang/IndexOutOfBoundsException"] E M')) ar ss 1 6 (gA G)) 3 M 0 0 19 [(0, .ref (α 0)), (1, .int x), (2, .int y)] [.int (bI (rng x 6 && rng y 24))] := by
    skip
    refine r_xS C hgX hno ml_X11_55 st_X11_needThere (c_X11_needThere l hfl G M (rng x 6 && rng y 24)) rfl (Nat.le_of_ble_eq_true rfl) ⟨Nat.le_of_ble_eq_true rfl, Nat.le_of_ble_eq_true rfl⟩ ⟨Nat.le_of_ble_eq_true rfl, Nat.le_of_ble_eq_true rfl⟩ dX11_pensionOf_19 rfl (fun E_ M_ h_ => x_1 h_) ⟨Nat.le_of_ble_eq_true rfl, Nat.le_of_ble_eq_true rfl⟩ ?_
    rintro _ _ ⟨rfl, rfl, hq1⟩
    have hq := hq1
    obtain ⟨hqa, hqb⟩ := Bool.and_eq_true_iff.mp hq
    obtain ⟨c, hc, e_x⟩ := rng_t hqa
    obtain ⟨d, hd, e_y⟩ := rng_t hqb
    refine V.eLo (lo' := [(0, .ref (α 0)), (1, .int (nI c)), (2, .int (nI d))]) (by rw [e_x, e_y]) ?_
    refine r_aload_n C 0 dX11_pensionOf_22 rfl rfl ?_
    refine r_iload_n C 1 dX11_pensionOf_23 rfl rfl ?_
    refine r_callV C hgX (ci := 13) ml_X11_144 im_X11_bookOf se_X11_bookOf rfl rfl (hx.k 0 14 rfl) (c_X11_bookOf l hfl G M τ hw α hws hwt hwb had c hc) rfl (Nat.le_of_ble_eq_true rfl) ⟨Nat.le_of_ble_eq_true rfl, Nat.le_of_ble_eq_true rfl⟩ ⟨Nat.le_of_ble_eq_true rfl, Nat.le_of_ble_eq_true rfl⟩ dX11_pensionOf_24 rfl ?_
    rintro _ My2 ⟨rfl, hbx2, hws2, hwt2, hwb2, hbz2⟩
    refine V.eSt (st' := [.ref (bO α c 0)]) rfl ?_
    have hbf := hwb2.2 _ hc hbz2
    have hbk := hws2.bk hc
    refine r_iload_n C 2 dX11_pensionOf_27 rfl rfl ?_
    refine r_callV C hgX (ci := 3) ml_X11_268 im_X0_pensionBehind se_X0_pensionBehind rfl rfl (hbk.k 0 4 rfl) (c_X0_pensionBehind l hfl G My2 (bO α c) hbk τ c d hd (fun k hk => (hbf.1 k hk).1.2.1) (fun k hk => (hbf.1 k hk).1.2.2.1)) rfl (Nat.le_of_ble_eq_true rfl) ⟨Nat.le_of_ble_eq_true rfl, Nat.le_of_ble_eq_true rfl⟩ ⟨Nat.le_of_ble_eq_true rfl, Nat.le_of_ble_eq_true rfl⟩ dX11_pensionOf_28 rfl ?_
    rintro _ _ ⟨rfl, rfl⟩
    refine V.eSt (st' := [.long (pfL τ c d)]) rfl ?_
    refine V.xret ?_
    exact r_lret C hr (⟨k_1 hq, by rw [e_x, e_y, nI_clamp (n := c) (by omega), nI_clamp (n := d) (by omega)], ⟨α, ⟨hws2, hwt2, hwb2⟩, rfl, CF.bx hc hbx2, fun _ _ hz_ => hz_⟩⟩) (by first | exact Nat.zero_le _ | decide) (by first | exact Nat.zero_le _ | decide) dX11_pensionOf_31
  refine r_iload_n C 1 dX11_pensionOf_0 rfl rfl ?_
  refine r_callS C hgX ml_X11_45 st_X11_isPerson (c_X11_isPerson l hfl G M x) rfl (Nat.le_of_ble_eq_true rfl) ⟨Nat.le_of_ble_eq_true rfl, Nat.le_of_ble_eq_true rfl⟩ ⟨Nat.le_of_ble_eq_true rfl, Nat.le_of_ble_eq_true rfl⟩ dX11_pensionOf_1 rfl ?_
  rintro _ _ ⟨rfl, rfl⟩
  refine V.eSt (st' := [.int (bI (rng x 6))]) rfl ?_
  refine r_if_eqB C (t := 18) dX11_pensionOf_4 (by decide) (fun c4 => ?_) (fun c4 => ?_)
  · skip
    refine r_iconst C (v := nI 0) dX11_pensionOf_18 (by decide) ?_
    refine V.eSt (st' := [.int (bI false)]) rfl ?_
    refine V.ei (y := bI (rng x 6 && rng y 24)) (congrArg bI (by simp [c4])) ?_
    exact jn19
  · skip
    refine r_iload_n C 2 dX11_pensionOf_7 rfl rfl ?_
    refine r_callS C hgX ml_X11_141 st_X11_isMonth (c_X11_isMonth l hfl G M y) rfl (Nat.le_of_ble_eq_true rfl) ⟨Nat.le_of_ble_eq_true rfl, Nat.le_of_ble_eq_true rfl⟩ ⟨Nat.le_of_ble_eq_true rfl, Nat.le_of_ble_eq_true rfl⟩ dX11_pensionOf_8 rfl ?_
    rintro _ _ ⟨rfl, rfl⟩
    refine V.eSt (st' := [.int (bI (rng y 24))]) rfl ?_
    refine r_if_eqB C (t := 18) dX11_pensionOf_11 (by decide) (fun c11 => ?_) (fun c11 => ?_)
    · skip
      refine r_iconst C (v := nI 0) dX11_pensionOf_18 (by decide) ?_
      refine V.eSt (st' := [.int (bI false)]) rfl ?_
      refine V.ei (y := bI (rng x 6 && rng y 24)) (congrArg bI (by simp [c4, c11])) ?_
      exact jn19
    · skip
      refine r_iconst C (v := nI 1) dX11_pensionOf_14 (by decide) ?_
      refine r_goto C (t := 19) dX11_pensionOf_15 (by decide) ?_
      refine V.eSt (st' := [.int (bI true)]) rfl ?_
      refine V.ei (y := bI (rng x 6 && rng y 24)) (congrArg bI (by simp [c4, c11])) ?_
      exact jn19
