set_option maxHeartbeats 1000000 in
set_option maxRecDepth 100000 in
theorem c_X11_isContract (l : Launch) (hfl : l.flags = flags0) (G : gW) (M : Mem) (τ : Mu) (hw : WF τ) (α : Nat → Nat) (hws : WS τ G α M) (hwt : WT τ α M) (hwb : WB τ α M) (had : ∀ p, p < 6 → AD τ p) (x : Int32) : CT l yX11_isContract cX11_isContract 2 (some .boolean) 1 0 0 20 G M [.ref (α 0), .int x] (fun v M' => v = some (.int (bI (rng x (un τ 9 9)))) ∧ M = M') := by
  refine CT.of hfl rfl (Nat.le_of_ble_eq_true rfl) ?_
  intro pp ee ss mm ar bw mt cd C hgX hr hini
  have hx := hws.2.1
  have hwx := hwt.2.2.2.1
  have hel := hws.el
  have h9 := hw.nc.2
  have h26 := hw.ne.2
  have h46 := hw.op.2
  have h51 := hw.np.2
  refine V.eLo (lo' := [(0, .ref (α 0)), (1, .int x)]) rfl ?_
  refine r_iload_n C 1 dX11_isContract_0 rfl rfl ?_
  refine r_if_lt C (t := 19) dX11_isContract_1 (by decide) (fun c1 => ?_) (fun c1 => ?_)
  · skip
    refine r_iconst C (v := nI 0) dX11_isContract_19 (by decide) ?_
    exact r_zret C hr (by decide) (⟨congrArg (fun z => some (Value.int z)) (rg_f1 (by first | exact c1 | simpa using c1)).symm, rfl⟩) (by first | exact Nat.zero_le _ | decide) (by first | exact Nat.zero_le _ | decide) dX11_isContract_20
  · skip
    refine r_iload_n C 1 dX11_isContract_4 rfl rfl ?_
    refine r_aload_n C 0 dX11_isContract_5 rfl rfl ?_
    refine r_getR C (b := (α 1)) fl_X11_10 rfl (hx.k 0 14 rfl) (hx.r 0 0 1 rfl) dX11_isContract_6 ?_
    refine r_callV C hgX (ci := 2) ml_X11_67 im_Jx4a65c_size_8abf5 se_Jx4a65c_size_8abf5 rfl rfl (hx.k 1 3 rfl) (c_Jx4a65c_size_8abf5 l hfl G M (α 1) (un τ 9 9) hws.2.2.2.2.2.2.2.2.1.1 hws.2.2.2.2.2.2.2.2.1.2.1) rfl (Nat.le_of_ble_eq_true rfl) ⟨Nat.le_of_ble_eq_true rfl, Nat.le_of_ble_eq_true rfl⟩ ⟨Nat.le_of_ble_eq_true rfl, Nat.le_of_ble_eq_true rfl⟩ dX11_isContract_9 rfl ?_
    rintro _ _ ⟨rfl, rfl⟩
    refine V.eSt (st' := [.int (nI (un τ 9 9)), .int x]) rfl ?_
    refine r_icmp_ge C (t := 19) dX11_isContract_12 (by decide) (fun c12 => ?_) (fun c12 => ?_)
    · skip
      refine r_iconst C (v := nI 0) dX11_isContract_19 (by decide) ?_
      exact r_zret C hr (by decide) (⟨congrArg (fun z => some (Value.int z)) (rg_f2 (by omega) (by first | exact c12 | simpa using c12)).symm, rfl⟩) (by first | exact Nat.zero_le _ | decide) (by first | exact Nat.zero_le _ | decide) dX11_isContract_20
    · skip
      refine r_iconst C (v := nI 1) dX11_isContract_15 (by decide) ?_
      refine r_goto C (t := 20) dX11_isContract_16 (by decide) ?_
      exact r_zret C hr (by decide) (⟨congrArg (fun z => some (Value.int z)) (rg_t (by omega) (by first | exact c1 | simpa using c1) (by first | exact c12 | simpa using c12)).symm, rfl⟩) (by first | exact Nat.zero_le _ | decide) (by first | exact Nat.zero_le _ | decide) dX11_isContract_20
set_option maxHeartbeats 1000000 in
set_option maxRecDepth 100000 in
theorem c_X11_isPayment (l : Launch) (hfl : l.flags = flags0) (G : gW) (M : Mem) (τ : Mu) (hw : WF τ) (α : Nat → Nat) (hws : WS τ G α M) (hwt : WT τ α M) (hwb : WB τ α M) (had : ∀ p, p < 6 → AD τ p) (x : Int32) : CT l yX11_isPayment cX11_isPayment 2 (some .boolean) 1 0 0 20 G M [.ref (α 0), .int x] (fun v M' => v = some (.int (bI (rng x (un τ 51 51)))) ∧ M = M') := by
  refine CT.of hfl rfl (Nat.le_of_ble_eq_true rfl) ?_
  intro pp ee ss mm ar bw mt cd C hgX hr hini
  have hx := hws.2.1
  have hwx := hwt.2.2.2.1
  have hel := hws.el
  have h9 := hw.nc.2
  have h26 := hw.ne.2
  have h46 := hw.op.2
  have h51 := hw.np.2
  refine V.eLo (lo' := [(0, .ref (α 0)), (1, .int x)]) rfl ?_
  refine r_iload_n C 1 dX11_isPayment_0 rfl rfl ?_
  refine r_if_lt C (t := 19) dX11_isPayment_1 (by decide) (fun c1 => ?_) (fun c1 => ?_)
  · skip
    refine r_iconst C (v := nI 0) dX11_isPayment_19 (by decide) ?_
    exact r_zret C hr (by decide) (⟨congrArg (fun z => some (Value.int z)) (rg_f1 (by first | exact c1 | simpa using c1)).symm, rfl⟩) (by first | exact Nat.zero_le _ | decide) (by first | exact Nat.zero_le _ | decide) dX11_isPayment_20
  · skip
    refine r_iload_n C 1 dX11_isPayment_4 rfl rfl ?_
    refine r_aload_n C 0 dX11_isPayment_5 rfl rfl ?_
    refine r_getR C (b := (α 28)) fl_X11_38 rfl (hx.k 0 14 rfl) (hx.r 0 5 28 rfl) dX11_isPayment_6 ?_
    refine r_callV C hgX (ci := 2) ml_X11_67 im_Jx4a65c_size_8abf5 se_Jx4a65c_size_8abf5 rfl rfl (hx.k 28 3 rfl) (c_Jx4a65c_size_8abf5 l hfl G M (α 28) (un τ 51 51) hws.2.2.2.2.2.2.2.2.2.2.1.1 hws.2.2.2.2.2.2.2.2.2.2.1.2.1) rfl (Nat.le_of_ble_eq_true rfl) ⟨Nat.le_of_ble_eq_true rfl, Nat.le_of_ble_eq_true rfl⟩ ⟨Nat.le_of_ble_eq_true rfl, Nat.le_of_ble_eq_true rfl⟩ dX11_isPayment_9 rfl ?_
    rintro _ _ ⟨rfl, rfl⟩
    refine V.eSt (st' := [.int (nI (un τ 51 51)), .int x]) rfl ?_
    refine r_icmp_ge C (t := 19) dX11_isPayment_12 (by decide) (fun c12 => ?_) (fun c12 => ?_)
    · skip
      refine r_iconst C (v := nI 0) dX11_isPayment_19 (by decide) ?_
      exact r_zret C hr (by decide) (⟨congrArg (fun z => some (Value.int z)) (rg_f2 (by omega) (by first | exact c12 | simpa using c12)).symm, rfl⟩) (by first | exact Nat.zero_le _ | decide) (by first | exact Nat.zero_le _ | decide) dX11_isPayment_20
    · skip
      refine r_iconst C (v := nI 1) dX11_isPayment_15 (by decide) ?_
      refine r_goto C (t := 20) dX11_isPayment_16 (by decide) ?_
      exact r_zret C hr (by decide) (⟨congrArg (fun z => some (Value.int z)) (rg_t (by omega) (by first | exact c1 | simpa using c1) (by first | exact c12 | simpa using c12)).symm, rfl⟩) (by first | exact Nat.zero_le _ | decide) (by first | exact Nat.zero_le _ | decide) dX11_isPayment_20
