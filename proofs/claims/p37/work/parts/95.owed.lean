set_option maxHeartbeats 1000000 in
set_option maxRecDepth 100000 in
theorem c_X11_unpaid (l : Launch) (hfl : l.flags = flags0) (G : gW) (M : Mem) (τ : Mu) (hw : WF τ) (α : Nat → Nat) (hws : WS τ G α M) (hwt : WT τ α M) (hwb : WB τ α M) (had : ∀ p, p < 6 → AD τ p) (c : Nat) (hc : c < 6) (hpy : ∀ m, m < 24 → mL M (bO α c 41) m = pyL τ c m) : CT l yX11_unpaid cX11_unpaid 5 (some .long) 0 0 0 0 G M [.ref (α 0), .ref (hO α c 0)] (fun v M' => v = some (.long (pdL τ c (sumL (pyL τ c) ((if un τ 46 46 = 24 then 23 else un τ 46 46) + 1)) (un τ 51 51))) ∧ M = M') := by
  refine CT.of hfl rfl (Nat.le_of_ble_eq_true rfl) ?_
  intro pp ee ss mm ar bw mt cd C hgX hr hini
  have hx := hws.2.1
  have hwx := hwt.2.2.2.1
  have h46 := hw.op.2
  have hbp := (hws.2.2.1 c hc).1
  have hbk := hws.bk hc
  have hlim : ((if un τ 46 46 = 24 then 23 else un τ 46 46) + 1) ≤ 24 ∧ (un τ 46 46 < 24 → ((if un τ 46 46 = 24 then 23 else un τ 46 46) + 1) = un τ 46 46 + 1) ∧ (un τ 46 46 = 24 → ((if un τ 46 46 = 24 then 23 else un τ 46 46) + 1) = 24) := ⟨by split <;> omega, fun z => by rw [if_neg (by omega)], fun z => by rw [if_pos z]⟩
  refine V.eLo (lo' := [(0, .ref (α 0)), (1, .ref (hO α c 0))]) rfl ?_
  refine r_lconst C (v := lN 0) dX11_unpaid_0 (by decide) ?_
  refine r_lstore_n C (lo' := [(2, .long (lN 0)), (0, .ref (α 0)), (1, .ref (hO α c 0))]) dX11_unpaid_1 rfl (by decide) rfl ?_
  refine r_iconst C (v := nI 0) dX11_unpaid_2 (by decide) ?_
  refine r_istore C (lo' := [(4, .int (nI 0)), (2, .long (lN 0)), (0, .ref (α 0)), (1, .ref (hO α c 0))]) dX11_unpaid_3 (by decide) rfl ?_
  have lp5 : ∀ (k5 : Nat) (m : Nat) (hm : m ≤ ((if un τ 46 46 = 24 then 23 else un τ 46 46) + 1)), 25 - m < k5 → V pp l ee ({ frames := 0, cells := 0, slots := 0, locals := 0 } : Room) ss mm ar bw mt cd G (MQ bw (Ke G (fun v M' => v = some (.long (pdL τ c (sumL (pyL τ c) ((if un τ 46 46 = 24 then 23 else un τ 46 46) + 1)) (un τ 51 51))) ∧ M = M')) ar ss 0 0 (gA G)) 5 M 0 0 5 [(0, .ref (α 0)), (1, .ref (hO α c 0)), (2, .long (sumL (pyL τ c) m)), (4, .int (nI m))] [] := by
    intro k5
    induction k5 with
    | zero => intro m hm hz5; exact absurd hz5 (Nat.not_lt_zero _)
    | succ k5 ih5 =>
      intro m hm hz5
      refine r_iload C 3 dX11_unpaid_5 rfl ?_
      refine r_aload_n C 0 dX11_unpaid_7 rfl rfl ?_
      refine r_getI C fl_X11_295 rfl (hx.k 0 14 rfl) dX11_unpaid_8 ?_
      refine V.ei (y := nI (un τ 46 46)) (hwx.2.2.2.2.2.1) ?_
      refine r_icmp_gtN C (t := 40) (by omega) (by omega) dX11_unpaid_11 (by decide) (fun c11 => ?_) (fun c11 => ?_)
      · skip
        have em : m = ((if un τ 46 46 = 24 then 23 else un τ 46 46) + 1) := by omega
        refine r_lload_n C 2 dX11_unpaid_40 rfl rfl ?_
        refine r_aload_n C 1 dX11_unpaid_41 rfl rfl ?_
        refine r_getL C fl_X11_327 rfl (hbp.k 0 11 rfl) dX11_unpaid_42 ?_
        refine V.el (y := sumL (fun k => if un τ 47 k = c ∧ un τ 50 k = 0 then τ.2 49 k else 0) (un τ 51 51)) ((hwt.2.1 c hc).2.2.2.2.2.2) ?_
        refine r_lsub C dX11_unpaid_45 ?_
        exact r_lret C hr (⟨by rw [pd_s, em], rfl⟩) (by first | exact Nat.zero_le _ | decide) (by first | exact Nat.zero_le _ | decide) dX11_unpaid_46
      · skip
        refine r_iload C 3 dX11_unpaid_14 rfl ?_
        refine r_bipush C (v := nI 24) dX11_unpaid_16 (by decide) ?_
        refine r_icmp_geN C (t := 40) (by omega) (by omega) dX11_unpaid_18 (by decide) (fun c18 => ?_) (fun c18 => ?_)
        · skip
          have em : m = ((if un τ 46 46 = 24 then 23 else un τ 46 46) + 1) := by omega
          refine r_lload_n C 2 dX11_unpaid_40 rfl rfl ?_
          refine r_aload_n C 1 dX11_unpaid_41 rfl rfl ?_
          refine r_getL C fl_X11_327 rfl (hbp.k 0 11 rfl) dX11_unpaid_42 ?_
          refine V.el (y := sumL (fun k => if un τ 47 k = c ∧ un τ 50 k = 0 then τ.2 49 k else 0) (un τ 51 51)) ((hwt.2.1 c hc).2.2.2.2.2.2) ?_
          refine r_lsub C dX11_unpaid_45 ?_
          exact r_lret C hr (⟨by rw [pd_s, em], rfl⟩) (by first | exact Nat.zero_le _ | decide) (by first | exact Nat.zero_le _ | decide) dX11_unpaid_46
        · skip
          refine r_lload_n C 2 dX11_unpaid_21 rfl rfl ?_
          refine r_aload_n C 1 dX11_unpaid_22 rfl rfl ?_
          refine r_getR C (b := (bO α c 0)) fl_X11_94 rfl (hbp.k 0 11 rfl) (hbp.r 0 10 15 rfl) dX11_unpaid_23 ?_
          refine r_getR C (b := (bO α c 41)) fl_X11_349 rfl (hbk.k 0 4 rfl) (hbk.r 0 14 41 rfl) dX11_unpaid_26 ?_
          refine r_iload C 3 dX11_unpaid_29 rfl ?_
          refine r_laloadN C (hbk.k 41 21 rfl) (hbk.n 41 24 rfl) (by omega) (by omega) dX11_unpaid_31 ?_
          refine V.el (y := pyL τ c m) (hpy m (by omega)) ?_
          refine r_ladd C dX11_unpaid_32 ?_
          refine r_lstore_n C (lo' := [(2, .long ((sumL (pyL τ c) m) + (pyL τ c m))), (0, .ref (α 0)), (1, .ref (hO α c 0)), (4, .int (nI m))]) dX11_unpaid_33 rfl (by decide) rfl ?_
          refine r_iinc C (v := nI (m + 1)) (lo' := [(4, .int (nI (m + 1))), (2, .long ((sumL (pyL τ c) m) + (pyL τ c m))), (0, .ref (α 0)), (1, .ref (hO α c 0))]) 3 dX11_unpaid_34 rfl (nI_addI m 1) (by decide) rfl ?_
          refine r_goto C (t := 5) dX11_unpaid_37 (by decide) ?_
          have jb2 : ((sumL (pyL τ c) m) + (pyL τ c m)) = (sumL (pyL τ c) (m + 1)) := by rfl
          refine V.eLo (lo' := [(4, .int (nI (m + 1))), (2, .long (sumL (pyL τ c) (m + 1))), (0, .ref (α 0)), (1, .ref (hO α c 0))]) (congrArg (fun z_ => ([(4, .int (nI (m + 1))), (2, .long z_), (0, .ref (α 0)), (1, .ref (hO α c 0))] : List (Nat × Value))) jb2) ?_
          refine V.sub [2, 3, 1, 0] (lo' := [(0, .ref (α 0)), (1, .ref (hO α c 0)), (2, .long (sumL (pyL τ c) (m + 1))), (4, .int (nI (m + 1)))]) rfl ?_
          exact ih5 (m + 1) (by omega) (by omega)
  refine V.sub [2, 3, 1, 0] (lo' := [(0, .ref (α 0)), (1, .ref (hO α c 0)), (2, .long (lN 0)), (4, .int (nI 0))]) rfl ?_
  exact lp5 _ 0 (Nat.zero_le _) (Nat.lt_succ_self _)
set_option maxHeartbeats 1000000 in
set_option maxRecDepth 100000 in
theorem c_X11_owed (l : Launch) (hfl : l.flags = flags0) (G : gW) (M : Mem) (τ : Mu) (hw : WF τ) (α : Nat → Nat) (hws : WS τ G α M) (hwt : WT τ α M) (hwb : WB τ α M) (had : ∀ p, p < 6 → AD τ p) (x : Int32) : CX l yX11_owed cX11_owed 2 (some .long) 7 1 6 188 G M [.ref (α 0), .int x] (fun v M' => PC τ G α M (cd1 (rng x 6)) (τ) (some (.long (pdL τ x.toNatClampNeg (sumL (pyL τ x.toNatClampNeg) ((if un τ 46 46 = 24 then 23 else un τ 46 46) + 1)) (un τ 51 51)))) v M') (fun E M' => XP M (cd1 (rng x 6)) ["java/lang/IndexOutOfBoundsException"] E M') := by
  refine CX.of hfl rfl (Nat.le_of_ble_eq_true rfl) ?_
  intro pp ee ss mm ar bw mt cd C hgX hr hno
  have hx := hws.2.1
  have hwx := hwt.2.2.2.1
  have h9 := hw.nc.2
  have h13 := hw.sh.2
  have h17 := hw.nl.2
  have h26 := hw.ne.2
  have h44 := hw.ng.2
  have h46 := hw.op.2
  have h51 := hw.np.2
  refine V.eLo (lo' := [(0, .ref (α 0)), (1, .int x)]) rfl ?_
  refine r_iload_n C 1 dX11_owed_0 rfl rfl ?_
  refine r_callS C hgX ml_X11_45 st_X11_isPerson (c_X11_isPerson l hfl G M x) rfl (Nat.le_of_ble_eq_true rfl) ⟨Nat.le_of_ble_eq_true rfl, Nat.le_of_ble_eq_true rfl⟩ ⟨Nat.le_of_ble_eq_true rfl, Nat.le_of_ble_eq_true rfl⟩ dX11_owed_1 rfl ?_
  rintro _ _ ⟨rfl, rfl⟩
  refine V.eSt (st' := [.int (bI (rng x 6))]) rfl ?_
  refine r_xS C hgX hno ml_X11_55 st_X11_needThere (c_X11_needThere l hfl G M (rng x 6)) rfl (Nat.le_of_ble_eq_true rfl) ⟨Nat.le_of_ble_eq_true rfl, Nat.le_of_ble_eq_true rfl⟩ ⟨Nat.le_of_ble_eq_true rfl, Nat.le_of_ble_eq_true rfl⟩ dX11_owed_4 rfl (fun E_ M_ h_ => x_1 h_) ⟨Nat.le_of_ble_eq_true rfl, Nat.le_of_ble_eq_true rfl⟩ ?_
  rintro _ _ ⟨rfl, rfl, hq1⟩
  have hq := hq1
  obtain ⟨c, hc, e_x⟩ := rng_t hq
  refine V.eLo (lo' := [(0, .ref (α 0)), (1, .int (nI c))]) (by rw [e_x]) ?_
  refine r_aload_n C 0 dX11_owed_7 rfl rfl ?_
  refine r_iload_n C 1 dX11_owed_8 rfl rfl ?_
  refine r_callV C hgX (ci := 13) ml_X11_144 im_X11_bookOf se_X11_bookOf rfl rfl (hx.k 0 14 rfl) (c_X11_bookOf l hfl G M τ hw α hws hwt hwb had c hc) rfl (Nat.le_of_ble_eq_true rfl) ⟨Nat.le_of_ble_eq_true rfl, Nat.le_of_ble_eq_true rfl⟩ ⟨Nat.le_of_ble_eq_true rfl, Nat.le_of_ble_eq_true rfl⟩ dX11_owed_9 rfl ?_
  rintro _ My2 ⟨rfl, hbx2, hws2, hwt2, hwb2, hbz2⟩
  refine V.eSt (st' := [.ref (bO α c 0)]) rfl ?_
  have hbf := hwb2.2 _ hc hbz2
  have hbk := hws2.bk hc
  have hx := hws2.2.1
  have hws := hws2
  refine r_pop C dX11_owed_12 rfl ?_
  refine r_aload_n C 0 dX11_owed_13 rfl rfl ?_
  refine r_aload_n C 0 dX11_owed_14 rfl rfl ?_
  refine r_getR C (b := (α 2)) fl_X11_18 rfl (hx.k 0 14 rfl) (hx.r 0 1 2 rfl) dX11_owed_15 ?_
  refine r_iload_n C 1 dX11_owed_18 rfl rfl ?_
  refine r_aaloadN C (b := (hO α c 0)) 1 (by decide) (hx.k 2 24 rfl) (hx.n 2 6 rfl) (by omega) (by omega) (hws.2.2.1 c (by omega)).2 dX11_owed_19 ?_
  refine r_callV C hgX (ci := 13) ml_X11_330 im_X11_unpaid se_X11_unpaid rfl rfl (hx.k 0 14 rfl) (c_X11_unpaid l hfl G My2 τ hw α hws2 hwt2 hwb2 had c hc (fun m hm => (hbf.1 m hm).2.2.2.2)) rfl (Nat.le_of_ble_eq_true rfl) ⟨Nat.le_of_ble_eq_true rfl, Nat.le_of_ble_eq_true rfl⟩ ⟨Nat.le_of_ble_eq_true rfl, Nat.le_of_ble_eq_true rfl⟩ dX11_owed_20 rfl ?_
  rintro _ _ ⟨rfl, rfl⟩
  refine V.eSt (st' := [.long (pdL τ c (sumL (pyL τ c) ((if un τ 46 46 = 24 then 23 else un τ 46 46) + 1)) (un τ 51 51))]) rfl ?_
  refine V.xret ?_
  exact r_lret C hr (⟨k_1 hq, by rw [e_x, nI_clamp (n := c) (by omega)], ⟨α, ⟨hws2, hwt2, hwb2⟩, rfl, CF.bx hc hbx2, fun _ _ hz_ => hz_⟩⟩) (by first | exact Nat.zero_le _ | decide) (by first | exact Nat.zero_le _ | decide) dX11_owed_23

