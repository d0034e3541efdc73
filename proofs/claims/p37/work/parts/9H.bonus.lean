/-! THE CLASS: bonus -/
theorem bn_w {τ : Mu} {G : gW} {α : Nat → Nat} {M : Mem} {c d e : Nat} {t : Int32} (hp : c < 6) (hd : d < 24) (he : e < 3) (hw : WF τ) (hwU : WF (sI τ 30 (72 * c + 3 * d + e) t)) (ws : WS τ G α M) (wt : WT τ α M) (wb : WB τ α M) : WD (sI τ 30 (72 * c + 3 * d + e) t) G α (wI (wI M (hO α c (11 + e)) d t) (bO α c 0) 0 (nI 1)) := by
  have hb := (ws.2.2.1 c hp).1
  have hU : ∀ k, k ≠ 30 → k ≠ 36 → k ≠ 37 → (sI τ 30 (72 * c + 3 * d + e) t).1 k = τ.1 k := fun k h1 h2 h3 => sI_r h1
  have f : frm (fun x => x = hO α c (11 + e)) M (wI M (hO α c (11 + e)) d t) := (frm.rf (fun x => x = hO α c (11 + e)) M).wi d t rfl
  have no : ∀ o, o < 15 → o ≠ 11 + e → mI (wI M (hO α c (11 + e)) d t) (hO α c o) = mI M (hO α c o) := fun o ho n1 => wI_a (hb.neq (show o < 57 by omega) (show 11 + e < 57 by omega) n1)
  obtain ⟨b1, b2, b3, b4, b5, b6, b7⟩ := wt.2.1 c hp
  have h0 : mI (wI M (hO α c (11 + e)) d t) (hO α c 0) 0 = nI c := (congrFun (no 0 (by decide) (by omega)) 0).trans b1
  refine pt_w (τ := τ) hp hw hwU hU rfl rfl rfl (fun r hr q => ⟨fun k hk => hU k (by omega) (by omega) (by omega), fun k h1 h2 => hU k (by omega) (by omega) (by omega), fun k h1 h2 => hU k (by omega) (by omega) (by omega), fun m s hm hs => sI_k (by rcases Nat.lt_trichotomy r c with z | z | z <;> omega), fun m hm => congrFun (show (sI τ 30 (72 * c + 3 * d + e) t).1 36 = τ.1 36 from sI_r (by decide)) _, fun m hm => congrFun (show (sI τ 30 (72 * c + 3 * d + e) t).1 37 = τ.1 37 from sI_r (by decide)) _, fun m hm => rfl⟩) ws wt wb (f.mono fun x h => ⟨11 + e, by omega, by omega, h⟩) h0 ?_
  refine ⟨h0, ?_, ?_, fun q hq m hm => ?_, b5, b6, b7⟩
  · rw [show stV (sI τ 30 (72 * c + 3 * d + e) t) c = stV τ c by unfold stV; rw [show (sI τ 30 (72 * c + 3 * d + e) t).1 36 = τ.1 36 from sI_r (by decide)]]
    unfold StV
    rw [no 5 (by decide) (by omega), no 6 (by decide) (by omega)]
    exact b2
  · rw [show ptV (sI τ 30 (72 * c + 3 * d + e) t) c = ptV τ c by unfold ptV; rw [show (sI τ 30 (72 * c + 3 * d + e) t).1 37 = τ.1 37 from sI_r (by decide)]]
    unfold StV
    rw [no 8 (by decide) (by omega), no 9 (by decide) (by omega)]
    exact b3
  · by_cases z : q = e
    · subst z
      by_cases y : m = d
      · subst y; exact wI_i.trans sI_s.symm
      · exact (wI_k y).trans ((b4 q hq m hm).trans (sI_k (by omega)).symm)
    · exact (congrFun (no (11 + q) (by omega) (by omega)) m).trans ((b4 q hq m hm).trans (sI_k (by omega)).symm)
theorem bn_b {t : Int32} (h : inB t (-10000000) (lN 10000000) = true) : -10000000 ≤ t.toInt ∧ t.toInt ≤ 12000000 := by
  unfold inB at h
  rw [decide_eq_true_iff, Int64.le_iff_toInt_le, Int64.le_iff_toInt_le, Int32.toInt_toInt64, show (-10000000 : Int64).toInt = -10000000 from rfl, show (lN 10000000).toInt = 10000000 from rfl] at h
  omega
set_option maxHeartbeats 1000000 in
set_option maxRecDepth 100000 in
theorem c_X11_bonus (l : Launch) (hfl : l.flags = flags0) (G : gW) (M : Mem) (τ : Mu) (hw : WF τ) (α : Nat → Nat) (hws : WS τ G α M) (hwt : WT τ α M) (hwb : WB τ α M) (had : ∀ p, p < 6 → AD τ p) (x y z t : Int32) : CX l yX11_bonus cX11_bonus 7 (some .int) 7 2 12 102 G M [.ref (α 0), .int x, .int y, .int z, .int t] (fun v M' => PC τ G α M (cd2 (rng x 6 && rng y 24 && rng z 3) (inB t (-10000000) (lN 10000000))) (sI τ 30 (72 * x.toNatClampNeg + 3 * y.toNatClampNeg + z.toNatClampNeg) t) (some (.int (τ.1 30 (72 * x.toNatClampNeg + 3 * y.toNatClampNeg + z.toNatClampNeg)))) v M') (fun E M' => XP M (cd2 (rng x 6 && rng y 24 && rng z 3) (inB t (-10000000) (lN 10000000))) ["java/lang/IndexOutOfBoundsException", "java/lang/IllegalArgumentException"] E M') := by
  refine CX.of hfl rfl (Nat.le_of_ble_eq_true rfl) ?_
  intro pp ee ss mm ar bw mt cd C hgX hr hno
  have hx := hws.2.1
  have hwx := hwt.2.2.2.1
  have h9 := hw.nc.2
  have h13 := hw.sh.2
  have h17 := hw.nl.2
  have h26 := hw.ne.2
  have h44 := hw.ng.2
  have h46 := hw.op.2
  have h51 := hw.np.2
  refine V.eLo (lo' := [(0, .ref (α 0)), (1, .int x), (2, .int y), (3, .int z), (4, .int t)]) rfl ?_
  have jn26 : V pp l ee ({ frames := 7, cells := 2, slots := 12, locals := 102 } : Room) ss mm ar bw mt cd G (vx_MQ bw (Ke G (fun v M' => PC τ G α M (cd2 (rng x 6 && rng y 24 && rng z 3) (inB t (-10000000) (lN 10000000))) (sI τ 30 (72 * x.toNatClampNeg + 3 * y.toNatClampNeg + z.toNatClampNeg) t) (some (.int (τ.1 30 (72 * x.toNatClampNeg + 3 * y.toNatClampNeg + z.toNatClampNeg)))) v M')) (Kx G (fun E M' => XP M (cd2 (rng x 6 && rng y 24 && rng z 3) (inB t (-10000000) (lN 10000000))) ["java/lang/IndexOutOfBoundsException", "java/lang/IllegalArgumentException"] E M')) ar ss 2 12 (gA G)) 7 M 0 0 26 [(0, .ref (α 0)), (1, .int x), (2, .int y), (3, .int z), (4, .int t)] [.int (bI (rng x 6 && rng y 24 && rng z 3))] := by
    skip
    refine r_xS C hgX hno ml_X11_55 st_X11_needThere (c_X11_needThere l hfl G M (rng x 6 && rng y 24 && rng z 3)) rfl (Nat.le_of_ble_eq_true rfl) ⟨Nat.le_of_ble_eq_true rfl, Nat.le_of_ble_eq_true rfl⟩ ⟨Nat.le_of_ble_eq_true rfl, Nat.le_of_ble_eq_true rfl⟩ dX11_bonus_26 rfl (fun E_ M_ h_ => x_2a h_) ⟨Nat.le_of_ble_eq_true rfl, Nat.le_of_ble_eq_true rfl⟩ ?_
    rintro _ _ ⟨rfl, rfl, hq1⟩
    have hq := hq1
    refine r_iload C 4 dX11_bonus_29 rfl ?_
    refine r_ldc C (v := (-10000000)) ki_X11_213 dX11_bonus_31 ?_
    refine r_ldc C (v := 10000000) ki_X11_214 dX11_bonus_33 ?_
    refine V.ei (y := nI 10000000) (by decide) ?_
    refine r_callS C hgX ml_X11_59 st_X11_isWithin (c_X11_isWithin l hfl G M t (-10000000) (nI 10000000)) rfl (Nat.le_of_ble_eq_true rfl) ⟨Nat.le_of_ble_eq_true rfl, Nat.le_of_ble_eq_true rfl⟩ ⟨Nat.le_of_ble_eq_true rfl, Nat.le_of_ble_eq_true rfl⟩ dX11_bonus_35 rfl ?_
    rintro _ _ ⟨rfl, rfl⟩
    refine V.eSt (st' := [.int (bI (inB t ((-10000000)).toInt64 (nI 10000000).toInt64))]) rfl ?_
    refine V.ei (y := bI (inB t (-10000000) (lN 10000000))) rfl ?_
    refine r_xS C hgX hno ml_X11_64 st_X11_needFitting (c_X11_needFitting l hfl G M (inB t (-10000000) (lN 10000000))) rfl (Nat.le_of_ble_eq_true rfl) ⟨Nat.le_of_ble_eq_true rfl, Nat.le_of_ble_eq_true rfl⟩ ⟨Nat.le_of_ble_eq_true rfl, Nat.le_of_ble_eq_true rfl⟩ dX11_bonus_38 rfl (fun E_ M_ h_ => x_2b hq h_) ⟨Nat.le_of_ble_eq_true rfl, Nat.le_of_ble_eq_true rfl⟩ ?_
    rintro _ _ ⟨rfl, rfl, hq2⟩
    have hq2 := hq2
    obtain ⟨hqa, hqb⟩ := Bool.and_eq_true_iff.mp hq
    obtain ⟨hqa, hqc⟩ := Bool.and_eq_true_iff.mp hqa
    obtain ⟨c, hc, e_x⟩ := rng_t hqa
    obtain ⟨d, hd, e_y⟩ := rng_t hqc
    obtain ⟨e, he, e_z⟩ := rng_t hqb
    have hbp := (hws.2.2.1 c hc).1
    have hbk := hws.bk hc
    have hbb := bn_b hq2
    refine V.eLo (lo' := [(0, .ref (α 0)), (1, .int (nI c)), (2, .int (nI d)), (3, .int (nI e)), (4, .int t)]) (by rw [e_x, e_y, e_z]) ?_
    refine r_aload_n C 0 dX11_bonus_41 rfl rfl ?_
    refine r_getR C (b := (α 2)) fl_X11_18 rfl (hx.k 0 14 rfl) (hx.r 0 1 2 rfl) dX11_bonus_42 ?_
    refine r_iload_n C 1 dX11_bonus_45 rfl rfl ?_
    refine r_aaloadN C (b := (hO α c 0)) 1 (by decide) (hx.k 2 24 rfl) (hx.n 2 6 rfl) (by omega) (by omega) (hws.2.2.1 c (by omega)).2 dX11_bonus_46 ?_
    refine r_getR C (b := (hO α c 10)) fl_X11_215 rfl (hbp.k 0 11 rfl) (hbp.r 0 6 10 rfl) dX11_bonus_47 ?_
    refine r_iload_n C 3 dX11_bonus_50 rfl rfl ?_
    refine r_aaloadN C (b := (hO α c (11 + e))) 4 (by decide) (hbp.k 10 27 rfl) (hbp.n 10 3 rfl) (by omega) (by omega) (hbp.ro 10 11 3 1 rfl e (by omega)) dX11_bonus_51 ?_
    refine r_astore C (lo' := [(5, .ref (hO α c (11 + e))), (0, .ref (α 0)), (1, .int (nI c)), (2, .int (nI d)), (3, .int (nI e)), (4, .int t)]) dX11_bonus_52 (by decide) rfl ?_
    refine r_aload C 0 dX11_bonus_54 rfl ?_
    refine r_iload_n C 3 dX11_bonus_56 rfl rfl ?_
    refine r_ialoadN C (hbp.ko 11 20 3 rfl e (by omega)) (hbp.no 11 24 3 rfl e (by omega)) (by omega) (by omega) dX11_bonus_57 ?_
    refine V.ei (y := τ.1 30 (72 * c + 3 * d + e)) ((hwt.2.1 c hc).2.2.2.1 e he d hd) ?_
    refine r_istore C (lo' := [(6, .int (τ.1 30 (72 * c + 3 * d + e))), (5, .ref (hO α c (11 + e))), (0, .ref (α 0)), (1, .int (nI c)), (2, .int (nI d)), (3, .int (nI e)), (4, .int t)]) dX11_bonus_58 (by decide) rfl ?_
    refine r_aload C 1 dX11_bonus_60 rfl ?_
    refine r_iload_n C 4 dX11_bonus_62 rfl rfl ?_
    refine r_iload C 6 dX11_bonus_63 rfl ?_
    refine r_iastoreN C (hbp.ko 11 20 3 rfl e (by omega)) (hbp.no 11 24 3 rfl e (by omega)) (by omega) (by omega) dX11_bonus_65 ?_
    have hwsO := hws
    have hfq : frm (PtA α c) M (wI M (hO α c (11 + e)) d t) := ((frm.rf (fun x => x = hO α c (11 + e)) M).wi d t rfl).mono fun x h => ⟨11 + e, by omega, by omega, h⟩
    refine r_aload_n C 2 dX11_bonus_66 rfl rfl ?_
    refine r_getR C (b := (α 2)) fl_X11_18 rfl (hx.k 0 14 rfl) (hx.r 0 1 2 rfl) dX11_bonus_67 ?_
    refine r_iload_n C 3 dX11_bonus_70 rfl rfl ?_
    refine r_aaloadN C (b := (hO α c 0)) 1 (by decide) (hx.k 2 24 rfl) (hx.n 2 6 rfl) (by omega) (by omega) (hws.2.2.1 c (by omega)).2 dX11_bonus_71 ?_
    refine r_getR C (b := (bO α c 0)) fl_X11_94 rfl (hbp.k 0 11 rfl) (hbp.r 0 10 15 rfl) dX11_bonus_72 ?_
    refine r_iconst C (v := nI 1) dX11_bonus_75 (by decide) ?_
    refine r_putZ C fl_X11_98 (by decide) (hbk.k 0 4 rfl) dX11_bonus_76 ?_
    refine r_iload C 0 dX11_bonus_79 rfl ?_
    refine V.xret ?_
    exact r_iret C hr (⟨k_2 hq hq2, by rw [e_x, e_y, e_z, nI_clamp (n := c) (by omega), nI_clamp (n := d) (by omega), nI_clamp (n := e) (by omega)], α, by rw [e_x, e_y, e_z, nI_clamp (n := c) (by omega), nI_clamp (n := d) (by omega), nI_clamp (n := e) (by omega)]; exact bn_w hc hd he hw (wf_bonus hw hbb.1 hbb.2) hws hwt hwb, rfl, CF.tr2 hfq ((frm.rf (fun y => y = bO α c 0) _).wi 0 (nI 1) rfl) (fun a h => PtA.lv hc h) (fun a h => ⟨_, lv_b hc (show 0 < 42 by decide), h⟩), fun _ _ hz_ k_ hk_ => hz_ k_ (LV.u rfl rfl rfl rfl hk_)⟩) (by first | exact Nat.zero_le _ | decide) (by first | exact Nat.zero_le _ | decide) dX11_bonus_81
  refine r_iload_n C 1 dX11_bonus_0 rfl rfl ?_
  refine r_callS C hgX ml_X11_45 st_X11_isPerson (c_X11_isPerson l hfl G M x) rfl (Nat.le_of_ble_eq_true rfl) ⟨Nat.le_of_ble_eq_true rfl, Nat.le_of_ble_eq_true rfl⟩ ⟨Nat.le_of_ble_eq_true rfl, Nat.le_of_ble_eq_true rfl⟩ dX11_bonus_1 rfl ?_
  rintro _ _ ⟨rfl, rfl⟩
  refine V.eSt (st' := [.int (bI (rng x 6))]) rfl ?_
  refine r_if_eqB C (t := 25) dX11_bonus_4 (by decide) (fun c4 => ?_) (fun c4 => ?_)
  · skip
    refine r_iconst C (v := nI 0) dX11_bonus_25 (by decide) ?_
    refine V.eSt (st' := [.int (bI false)]) rfl ?_
    refine V.ei (y := bI (rng x 6 && rng y 24 && rng z 3)) (congrArg bI (by simp [c4])) ?_
    exact jn26
  · skip
    refine r_iload_n C 2 dX11_bonus_7 rfl rfl ?_
    refine r_callS C hgX ml_X11_141 st_X11_isMonth (c_X11_isMonth l hfl G M y) rfl (Nat.le_of_ble_eq_true rfl) ⟨Nat.le_of_ble_eq_true rfl, Nat.le_of_ble_eq_true rfl⟩ ⟨Nat.le_of_ble_eq_true rfl, Nat.le_of_ble_eq_true rfl⟩ dX11_bonus_8 rfl ?_
    rintro _ _ ⟨rfl, rfl⟩
    refine V.eSt (st' := [.int (bI (rng y 24))]) rfl ?_
    refine r_if_eqB C (t := 25) dX11_bonus_11 (by decide) (fun c11 => ?_) (fun c11 => ?_)
    · skip
      refine r_iconst C (v := nI 0) dX11_bonus_25 (by decide) ?_
      refine V.eSt (st' := [.int (bI false)]) rfl ?_
      refine V.ei (y := bI (rng x 6 && rng y 24 && rng z 3)) (congrArg bI (by simp [c4, c11])) ?_
      exact jn26
    · skip
      refine r_iload_n C 3 dX11_bonus_14 rfl rfl ?_
      refine r_callS C hgX ml_X11_49 st_X11_isPlace (c_X11_isPlace l hfl G M z) rfl (Nat.le_of_ble_eq_true rfl) ⟨Nat.le_of_ble_eq_true rfl, Nat.le_of_ble_eq_true rfl⟩ ⟨Nat.le_of_ble_eq_true rfl, Nat.le_of_ble_eq_true rfl⟩ dX11_bonus_15 rfl ?_
      rintro _ _ ⟨rfl, rfl⟩
      refine V.eSt (st' := [.int (bI (rng z 3))]) rfl ?_
      refine r_if_eqB C (t := 25) dX11_bonus_18 (by decide) (fun c18 => ?_) (fun c18 => ?_)
      · skip
        refine r_iconst C (v := nI 0) dX11_bonus_25 (by decide) ?_
        refine V.eSt (st' := [.int (bI false)]) rfl ?_
        refine V.ei (y := bI (rng x 6 && rng y 24 && rng z 3)) (congrArg bI (by simp [c4, c11, c18])) ?_
        exact jn26
      · skip
        refine r_iconst C (v := nI 1) dX11_bonus_21 (by decide) ?_
        refine r_goto C (t := 26) dX11_bonus_22 (by decide) ?_
        refine V.eSt (st' := [.int (bI true)]) rfl ?_
        refine V.ei (y := bI (rng x 6 && rng y 24 && rng z 3)) (congrArg bI (by simp [c4, c11, c18])) ?_
        exact jn26

