/-! THE CLASS: leaveRule -/
theorem x0_s {τ : Mu} {G : gW} {α : Nat → Nat} {M M1 : Mem} (ws : WS τ G α M) (f : frm (fun a => a = α 0) M M1) : WS τ G α M1 :=
  ws.fr f (fun k hk e => by
    have := ws.1 _ _ (lc_bc (p := 0) hk).1 (lv_s (by decide)) e
    rcases hk with rfl | rfl | rfl | ⟨q, o, h1, h2, h3, rfl⟩ <;> omega)
theorem x0_v {τ : Mu} {α : Nat → Nat} {a : Nat} (h : a = α 0) : ∃ k, LV τ k ∧ a = α k := ⟨0, lv_s (by decide), h⟩
set_option maxHeartbeats 1000000 in
set_option maxRecDepth 100000 in
theorem c_X11_leaveRule (l : Launch) (hfl : l.flags = flags0) (G : gW) (M : Mem) (τ : Mu) (hw : WF τ) (α : Nat → Nat) (hws : WS τ G α M) (hwt : WT τ α M) (hwb : WB τ α M) (had : ∀ p, p < 6 → AD τ p) (x y z : Int32) : CX l yX11_leaveRule cX11_leaveRule 4 none 7 1 6 102 G M [.ref (α 0), .int x, .int y, .int z] (fun v M' => PC τ G α M (cd1 (inB x (lN 0) (lN 50) && inB y (lN 0) (lN 500) && inB z (lN 1) (lN 12))) (sI (sI (sI τ 18 18 x) 19 19 y) 20 20 z) (none) v M') (fun E M' => XP M (cd1 (inB x (lN 0) (lN 50) && inB y (lN 0) (lN 500) && inB z (lN 1) (lN 12))) ["java/lang/IllegalArgumentException"] E M') := by
  refine CX.of hfl rfl (Nat.le_of_ble_eq_true rfl) ?_
  intro pp ee ss mm ar bw mt cd C hgX hr hno
  have hx := hws.2.1
  have hwx := hwt.2.2.2.1
  have h9 := hw.nc.2
  have h13 := hw.sh.2
  have h17 := hw.nl.2
  have h26 := hw.ne.2
  have h44 := hw.ng.2
  have h46 := hw.op.2
  have h51 := hw.np.2
  refine V.eLo (lo' := [(0, .ref (α 0)), (1, .int x), (2, .int y), (3, .int z)]) rfl ?_
  have jn36 : V pp l ee ({ frames := 7, cells := 1, slots := 6, locals := 102 } : Room) ss mm ar bw mt cd G (vx_MQ bw (Ke G (fun v M' => PC τ G α M (cd1 (inB x (lN 0) (lN 50) && inB y (lN 0) (lN 500) && inB z (lN 1) (lN 12))) (sI (sI (sI τ 18 18 x) 19 19 y) 20 20 z) (none) v M')) (Kx G (fun E M' => XP M (cd1 (inB x (lN 0) (lN 50) && inB y (lN 0) (lN 500) && inB z (lN 1) (lN 12))) ["java/lang/IllegalArgumentException"] E M')) ar ss 1 6 (gA G)) 4 M 0 0 36 [(0, .ref (α 0)), (1, .int x), (2, .int y), (3, .int z)] [.int (bI (inB x (lN 0) (lN 50) && inB y (lN 0) (lN 500) && inB z (lN 1) (lN 12)))] := by
    skip
    refine r_xS C hgX hno ml_X11_64 st_X11_needFitting (c_X11_needFitting l hfl G M (inB x (lN 0) (lN 50) && inB y (lN 0) (lN 500) && inB z (lN 1) (lN 12))) rfl (Nat.le_of_ble_eq_true rfl) ⟨Nat.le_of_ble_eq_true rfl, Nat.le_of_ble_eq_true rfl⟩ ⟨Nat.le_of_ble_eq_true rfl, Nat.le_of_ble_eq_true rfl⟩ dX11_leaveRule_36 rfl (fun E_ M_ h_ => x_1 h_) ⟨Nat.le_of_ble_eq_true rfl, Nat.le_of_ble_eq_true rfl⟩ ?_
    rintro _ _ ⟨rfl, rfl, hq1⟩
    have hq := hq1
    obtain ⟨hqa, hqb⟩ := Bool.and_eq_true_iff.mp hq
    obtain ⟨hqa, hqc⟩ := Bool.and_eq_true_iff.mp hqa
    obtain ⟨m1, hm10, hm1, e_x⟩ := inB_N (by decide) (by decide) hqa
    obtain ⟨m2, hm20, hm2, e_y⟩ := inB_N (by decide) (by decide) hqc
    obtain ⟨m3, hm30, hm3, e_z⟩ := inB_N (by decide) (by decide) hqb
    refine V.eLo (lo' := [(0, .ref (α 0)), (1, .int (nI m1)), (2, .int (nI m2)), (3, .int (nI m3))]) (by rw [e_x, e_y, e_z]) ?_
    refine r_aload_n C 0 dX11_leaveRule_39 rfl rfl ?_
    refine r_iload_n C 1 dX11_leaveRule_40 rfl rfl ?_
    refine r_putI C fl_X11_152 (hx.k 0 14 rfl) dX11_leaveRule_41 ?_
    refine r_aload_n C 0 dX11_leaveRule_44 rfl rfl ?_
    refine r_iload_n C 2 dX11_leaveRule_45 rfl rfl ?_
    refine r_putI C fl_X11_155 (hx.k 0 14 rfl) dX11_leaveRule_46 ?_
    refine r_aload_n C 0 dX11_leaveRule_49 rfl rfl ?_
    refine r_iload_n C 3 dX11_leaveRule_50 rfl rfl ?_
    refine r_putI C fl_X11_158 (hx.k 0 14 rfl) dX11_leaveRule_51 ?_
    refine r_aload_n C 0 dX11_leaveRule_54 rfl rfl ?_
    refine r_callV C hgX (ci := 13) ml_X11_161 im_X11_makeAllStale se_X11_makeAllStale rfl rfl (show mK (wI (wI (wI M (α 0) 8 (nI m1)) (α 0) 9 (nI m2)) (α 0) 10 (nI m3)) (α 0) = 13 + 1 from (hx.k 0 14 rfl)) (c_X11_makeAllStale l hfl G (wI (wI (wI M (α 0) 8 (nI m1)) (α 0) 9 (nI m2)) (α 0) 10 (nI m3)) τ α (x0_s hws ((((frm.rf (fun a => a = α 0) M).wi 8 (nI m1) rfl).wi 9 (nI m2) rfl).wi 10 (nI m3) rfl))) rfl (Nat.le_of_ble_eq_true rfl) ⟨Nat.le_of_ble_eq_true rfl, Nat.le_of_ble_eq_true rfl⟩ ⟨Nat.le_of_ble_eq_true rfl, Nat.le_of_ble_eq_true rfl⟩ dX11_leaveRule_55 rfl ?_
    rintro _ My2 ⟨rfl, hsa2, hsf2⟩
    refine V.xret ?_
    exact r_vret C hr (⟨k_1 hq, rfl, α, by rw [e_x, e_y, e_z]; exact lr_w rfl rfl rfl hw (wf_leaveRule hw hm1 hm2 hm3) hws hwt hwb (by omega) (by omega) (by omega) hsa2 hsf2, rfl, CF.tr2 ((((frm.rf (fun a => a = α 0) M).wi 8 (nI m1) rfl).wi 9 (nI m2) rfl).wi 10 (nI m3) rfl) hsa2 (fun a h => x0_v h) (fun a h => StA.lv h), fun _ _ hz_ k_ hk_ => hz_ k_ (LV.u rfl rfl rfl rfl hk_)⟩) (by first | exact Nat.zero_le _ | decide) (by first | exact Nat.zero_le _ | decide) dX11_leaveRule_58
  refine r_iload_n C 1 dX11_leaveRule_0 rfl rfl ?_
  refine r_iconst C (v := nI 0) dX11_leaveRule_1 (by decide) ?_
  refine r_bipush C (v := nI 50) dX11_leaveRule_2 (by decide) ?_
  refine r_callS C hgX ml_X11_59 st_X11_isWithin (c_X11_isWithin l hfl G M x (nI 0) (nI 50)) rfl (Nat.le_of_ble_eq_true rfl) ⟨Nat.le_of_ble_eq_true rfl, Nat.le_of_ble_eq_true rfl⟩ ⟨Nat.le_of_ble_eq_true rfl, Nat.le_of_ble_eq_true rfl⟩ dX11_leaveRule_4 rfl ?_
  rintro _ _ ⟨rfl, rfl⟩
  refine V.eSt (st' := [.int (bI (inB x (nI 0).toInt64 (nI 50).toInt64))]) rfl ?_
  refine V.ei (y := bI (inB x (lN 0) (lN 50))) rfl ?_
  refine r_if_eqB C (t := 35) dX11_leaveRule_7 (by decide) (fun c7 => ?_) (fun c7 => ?_)
  · skip
    refine r_iconst C (v := nI 0) dX11_leaveRule_35 (by decide) ?_
    refine V.eSt (st' := [.int (bI false)]) rfl ?_
    refine V.ei (y := bI (inB x (lN 0) (lN 50) && inB y (lN 0) (lN 500) && inB z (lN 1) (lN 12))) (congrArg bI (by simp [c7])) ?_
    exact jn36
  · skip
    refine r_iload_n C 2 dX11_leaveRule_10 rfl rfl ?_
    refine r_iconst C (v := nI 0) dX11_leaveRule_11 (by decide) ?_
    refine r_sipush C (v := nI 500) dX11_leaveRule_12 (by decide) ?_
    refine r_callS C hgX ml_X11_59 st_X11_isWithin (c_X11_isWithin l hfl G M y (nI 0) (nI 500)) rfl (Nat.le_of_ble_eq_true rfl) ⟨Nat.le_of_ble_eq_true rfl, Nat.le_of_ble_eq_true rfl⟩ ⟨Nat.le_of_ble_eq_true rfl, Nat.le_of_ble_eq_true rfl⟩ dX11_leaveRule_15 rfl ?_
    rintro _ _ ⟨rfl, rfl⟩
    refine V.eSt (st' := [.int (bI (inB y (nI 0).toInt64 (nI 500).toInt64))]) rfl ?_
    refine V.ei (y := bI (inB y (lN 0) (lN 500))) rfl ?_
    refine r_if_eqB C (t := 35) dX11_leaveRule_18 (by decide) (fun c18 => ?_) (fun c18 => ?_)
    · skip
      refine r_iconst C (v := nI 0) dX11_leaveRule_35 (by decide) ?_
      refine V.eSt (st' := [.int (bI false)]) rfl ?_
      refine V.ei (y := bI (inB x (lN 0) (lN 50) && inB y (lN 0) (lN 500) && inB z (lN 1) (lN 12))) (congrArg bI (by simp [c7, c18])) ?_
      exact jn36
    · skip
      refine r_iload_n C 3 dX11_leaveRule_21 rfl rfl ?_
      refine r_iconst C (v := nI 1) dX11_leaveRule_22 (by decide) ?_
      refine r_bipush C (v := nI 12) dX11_leaveRule_23 (by decide) ?_
      refine r_callS C hgX ml_X11_59 st_X11_isWithin (c_X11_isWithin l hfl G M z (nI 1) (nI 12)) rfl (Nat.le_of_ble_eq_true rfl) ⟨Nat.le_of_ble_eq_true rfl, Nat.le_of_ble_eq_true rfl⟩ ⟨Nat.le_of_ble_eq_true rfl, Nat.le_of_ble_eq_true rfl⟩ dX11_leaveRule_25 rfl ?_
      rintro _ _ ⟨rfl, rfl⟩
      refine V.eSt (st' := [.int (bI (inB z (nI 1).toInt64 (nI 12).toInt64))]) rfl ?_
      refine V.ei (y := bI (inB z (lN 1) (lN 12))) rfl ?_
      refine r_if_eqB C (t := 35) dX11_leaveRule_28 (by decide) (fun c28 => ?_) (fun c28 => ?_)
      · skip
        refine r_iconst C (v := nI 0) dX11_leaveRule_35 (by decide) ?_
        refine V.eSt (st' := [.int (bI false)]) rfl ?_
        refine V.ei (y := bI (inB x (lN 0) (lN 50) && inB y (lN 0) (lN 500) && inB z (lN 1) (lN 12))) (congrArg bI (by simp [c7, c18, c28])) ?_
        exact jn36
      · skip
        refine r_iconst C (v := nI 1) dX11_leaveRule_31 (by decide) ?_
        refine r_goto C (t := 36) dX11_leaveRule_32 (by decide) ?_
        refine V.eSt (st' := [.int (bI true)]) rfl ?_
        refine V.ei (y := bI (inB x (lN 0) (lN 50) && inB y (lN 0) (lN 500) && inB z (lN 1) (lN 12))) (congrArg bI (by simp [c7, c18, c28])) ?_
        exact jn36

