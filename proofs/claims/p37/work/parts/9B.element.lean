/-! THE CLASS: element -/
def EtA (α : Nat → Nat) (a : Nat) : Prop := ∃ o, o < 21 ∧ a = eO α o
theorem EtA.lv {τ : Mu} {α : Nat → Nat} {a : Nat} (h : EtA α a) : ∃ k, LV τ k ∧ a = α k := by
  obtain ⟨o, h1, e⟩ := h
  exact ⟨_, lv_s (show 4 + o < 476 by omega), e⟩
theorem EtA.no {τ : Mu} {α : Nat → Nat} {k : Nat} (hi : INJ τ α) (hk : LV τ k) (h : ¬ (4 ≤ k ∧ k < 25)) : ¬ EtA α (α k) := by
  rintro ⟨o, h1, e⟩
  have := hi _ _ hk (lv_s (show 4 + o < 476 by omega)) e
  omega
theorem EtA.lc {τ : Mu} {α : Nat → Nat} {k : Nat} (hi : INJ τ α) (hk : LC k) : ¬ EtA α (α k) := EtA.no hi (lc_bc (p := 0) hk).1 (by rcases hk with rfl | rfl | rfl | ⟨q, o, h1, h2, h3, rfl⟩ <;> omega)
theorem elU_o {τ : Mu} {c d k : Nat} (h : k < 22 ∨ 27 < k) : (elU τ c d).1 k = τ.1 k := by
  funext i
  have e1 : (elU τ c d).1 k i = (elS τ c d).1 k i := arV_o _ (by omega)
  rw [e1]
  unfold elS
  refine (congrFun (up2_row _ _ (show k ≠ 26 by omega)) i).trans ((congrFun (up2_row _ _ (show k ≠ 25 by omega)) i).trans ((congrFun (up2_row _ _ (show k ≠ 24 by omega)) i).trans ((congrFun (up2_row _ _ (show k ≠ 24 by omega)) i).trans ?_)))
  exact if_neg (fun q => by omega)
/-- the elements have changed, no more -/
theorem el_w {τ U : Mu} {G : gW} {α : Nat → Nat} {M M1 : Mem} (hw : WF τ) (hU : ∀ k, k < 22 ∨ 27 < k → U.1 k = τ.1 k) (hU2 : U.2 = τ.2) (ws : WS τ G α M) (wt : WT τ α M) (f : frm (EtA α) M M1) (hE : ElF U (mI M1) (eO α)) : WS U G α M1 ∧ WT U α M1 := by
  have h9 := hw.nc.2
  have l2 : ∀ k, U.2 k = τ.2 k := fun k => by rw [hU2]
  have n : ∀ k, LV τ k → ¬ (4 ≤ k ∧ k < 25) → ¬ EtA α (α k) := fun k hk h => EtA.no ws.1 hk h
  have ei : ∀ k, LV τ k → ¬ (4 ≤ k ∧ k < 25) → mI M1 (α k) = mI M (α k) := fun k hk h => f.i (n k hk h)
  have el : ∀ k, LV τ k → ¬ (4 ≤ k ∧ k < 25) → mL M1 (α k) = mL M (α k) := fun k hk h => f.l (n k hk h)
  have e9 : un U 9 9 = un τ 9 9 := congrFun (un_e (hU 9 (by omega))) 9
  refine ⟨(ws.fr f (fun k hk => EtA.lc ws.1 hk)).u (hU 0 (by omega)) (hU 9 (by omega)) (hU 14 (by omega)) (hU 15 (by omega)) (hU 17 (by omega)) (hU 38 (by omega)) (hU 40 (by omega)) (hU 44 (by omega)) (hU 51 (by omega)), ?_⟩
  obtain ⟨w1, w2, w3, w4, w5⟩ := wt
  refine ⟨fun c hc => ?_, fun r hr => ?_, fun q hq => ?_, ?_, ?_⟩
  · rw [e9] at hc
    exact ((w1 c hc).cg (fun k _ => congrFun (ei _ (lv_c hc (show 0 < 10 by decide)) (by omega)) k) (fun o _ ho => ei _ (lv_c hc (show o < 10 by omega)) (by omega))).u (fun k hk => hU k (by omega))
  · exact ((w2 r hr).cg (fun o ho => ei _ (lv_h hr (show o < 57 by omega)) (by omega)) (fun o ho => el _ (lv_h hr (show o < 57 by omega)) (by omega))).u (hU 30 (by omega)) (hU 36 (by omega)) (hU 37 (by omega)) (hU 47 (by omega)) (hU 50 (by omega)) (hU 51 (by omega)) (l2 45) (l2 49)
  · exact ((w3 q hq).cg (fun o ho => ei _ (lv_g hq ho) (by omega)) (fun o ho => el _ (lv_g hq ho) (by omega))).u (hU 31 (by omega)) (hU 32 (by omega)) (hU 33 (by omega)) (hU 34 (by omega)) (hU 35 (by omega)) (hU 54 (by omega)) (l2 52) (l2 53)
  · obtain ⟨b1, b2, b3, b4, b5, b6, b7⟩ := w4
    have e0 : mI M1 (α 0) = mI M (α 0) := ei 0 (lv_s (by decide)) (by omega)
    unfold WTx
    rw [e0, un_e (hU 13 (by omega)), un_e (hU 17 (by omega)), un_e (hU 18 (by omega)), un_e (hU 19 (by omega)), un_e (hU 20 (by omega)), un_e (hU 46 (by omega))]
    exact ⟨b1, b2, b3, b4, b5, b6, hE⟩
  · exact (w5.cg (fun k hk => congrFun (ei _ (lv_l hk) (by omega)) 1) (fun g hg => ei _ (lv_a hg (show 0 < 2 by decide)) (by omega)) (fun k hk => ⟨ei _ (lv_y hk) (by omega), el _ (lv_y hk) (by omega)⟩)).u (hU 15 (by omega)) (hU 17 (by omega)) (fun k a b => hU k (by omega)) (hU 47 (by omega)) (hU 48 (by omega)) (hU 50 (by omega)) (hU 51 (by omega)) (l2 49)
theorem et_w {τ : Mu} {G : gW} {α : Nat → Nat} {M M1 M2 : Mem} {c d : Nat} (hw : WF τ) (hwU : WF (elU τ c d)) (ws : WS τ G α M) (wt : WT τ α M) (wb : WB τ α M) (f : frm (EtA α) M M1) (hE : ElF (elU τ c d) (mI M1) (eO α)) (g : frm (StA α) M1 M2) (h1 : ∀ p, p < 6 → mI M2 (bO α p 0) 0 = 1) : WD (elU τ c d) G α M2 := by
  have h9 := hw.nc.2
  have hU : ∀ k, k < 22 ∨ 27 < k → (elU τ c d).1 k = τ.1 k := fun k hk => elU_o hk
  obtain ⟨ws1, wt1⟩ := el_w hw hU rfl ws wt f hE
  have e9 : un (elU τ c d) 9 9 = un τ 9 9 := congrFun (un_e (hU 9 (by omega))) 9
  refine stale_w hwU ws1 wt1 (fun c hc hz => ?_) g h1
  rw [e9] at hc
  have hn : ∀ o, o < 10 → ¬ EtA α (cO α c o) := fun o ho => EtA.no ws.1 (lv_c hc ho) (by omega)
  exact ((wb.1 c hc (by rw [← f.i (hn 0 (by decide))]; exact hz)).fr f (hn 7 (by decide)) (hn 8 (by decide))).u (fun k hk => hU k (by omega))
theorem et_1 {x : Int32} {n : Nat} (hn : n ≤ 6) : inB x (nI 0).toInt64 (nI (min n 5)).toInt64 = (inB x (lN 0) (lN n) && decide (x < nI 6)) := by
  unfold inB
  rw [Bool.eq_iff_iff, Bool.and_eq_true, decide_eq_true_iff, decide_eq_true_iff, decide_eq_true_iff, Int64.le_iff_toInt_le, Int64.le_iff_toInt_le, Int64.le_iff_toInt_le, Int64.le_iff_toInt_le, Int32.toInt_toInt64, Int32.toInt_toInt64, Int32.toInt_toInt64, Int32.lt_iff_toInt_lt, nI_toInt (by decide), nI_toInt (by omega), nI_toInt (by decide), pk_lT (by decide), pk_lT (by omega)]
  omega
theorem et_2 {x : Int32} {n : Nat} (hn : n ≤ 6) (h : (inB x (lN 0) (lN n) && decide (x < nI 6)) = true) : ∃ c, c ≤ n ∧ c < 6 ∧ x = nI c := by
  rw [Bool.and_eq_true, decide_eq_true_iff] at h
  obtain ⟨c, _, h1, rfl⟩ := inB_N (by decide) (by omega) h.1
  refine ⟨c, h1, ?_, rfl⟩
  have h2 := h.2
  rw [Int32.lt_iff_toInt_lt, nI_toInt (by omega), nI_toInt (by decide)] at h2
  omega
set_option maxHeartbeats 1000000 in
set_option maxRecDepth 100000 in
theorem c_X11_element (l : Launch) (hfl : l.flags = flags0) (G : gW) (M : Mem) (τ : Mu) (hw : WF τ) (α : Nat → Nat) (hws : WS τ G α M) (hwt : WT τ α M) (hwb : WB τ α M) (had : ∀ p, p < 6 → AD τ p) (x y : Int32) : CX l yX11_element cX11_element 3 (some .int) 7 3 18 102 G M [.ref (α 0), .int x, .int y] (fun v M' => PC τ G α M (cd3 (inB x (lN 0) (lN (un τ 26 26)) && decide (x < nI 6)) (inB y (lN 0) (lN 63)) (elB τ x)) (elU τ x.toNatClampNeg y.toNatClampNeg) (some (.int (nI (un τ 26 26 + (if x.toNatClampNeg = un τ 26 26 then 1 else 0))))) v M') (fun E M' => XP M (cd3 (inB x (lN 0) (lN (un τ 26 26)) && decide (x < nI 6)) (inB y (lN 0) (lN 63)) (elB τ x)) ["java/lang/IndexOutOfBoundsException", "java/lang/IllegalArgumentException", "java/lang/IllegalStateException"] E M') := by
  refine CX.of hfl rfl (Nat.le_of_ble_eq_true rfl) ?_
  intro pp ee ss mm ar bw mt cd C hgX hr hno
  have hx := hws.2.1
  have hwx := hwt.2.2.2.1
  have h9 := hw.nc.2
  have h13 := hw.sh.2
  have h17 := hw.nl.2
  have h26 := hw.ne.2
  have h44 := hw.ng.2
  have h46 := hw.op.2
  have h51 := hw.np.2
  have hel := hws.el
  have hef := hwx.2.2.2.2.2.2
  have hfd := fmD_le τ 6 (un τ 24 6)
  have h246 := (hw.el 6 (by decide)).2
  refine V.eLo (lo' := [(0, .ref (α 0)), (1, .int x), (2, .int y)]) rfl ?_
  refine r_iload_n C 1 dX11_element_0 rfl rfl ?_
  refine r_iconst C (v := nI 0) dX11_element_1 (by decide) ?_
  refine r_aload_n C 0 dX11_element_2 rfl rfl ?_
  refine r_getR C (b := (eO α 0)) fl_X11_31 rfl (hx.k 0 14 rfl) (hx.r 0 3 4 rfl) dX11_element_3 ?_
  refine r_getI C fl_X11_190 rfl (hel.k 0 7 rfl) dX11_element_6 ?_
  refine V.ei (y := nI (un τ 26 26)) (hef.1) ?_
  refine r_iconst C (v := nI 5) dX11_element_9 (by decide) ?_
  refine r_minIN C km_X11_193 (by omega) (by omega) (Nat.le_of_ble_eq_true rfl) (Nat.le_of_ble_eq_true rfl) (by first | exact Nat.zero_le _ | decide) (by first | exact Nat.zero_le _ | decide) dX11_element_10 ?_
  refine r_callS C hgX ml_X11_59 st_X11_isWithin (c_X11_isWithin l hfl G M x (nI 0) (nI (min (un τ 26 26) 5))) rfl (Nat.le_of_ble_eq_true rfl) ⟨Nat.le_of_ble_eq_true rfl, Nat.le_of_ble_eq_true rfl⟩ ⟨Nat.le_of_ble_eq_true rfl, Nat.le_of_ble_eq_true rfl⟩ dX11_element_13 rfl ?_
  rintro _ _ ⟨rfl, rfl⟩
  refine V.eSt (st' := [.int (bI (inB x (nI 0).toInt64 (nI (min (un τ 26 26) 5)).toInt64))]) rfl ?_
  refine V.ei (y := bI (inB x (lN 0) (lN (un τ 26 26)) && decide (x < nI 6))) (congrArg bI (et_1 (by omega))) ?_
  refine r_xS C hgX hno ml_X11_55 st_X11_needThere (c_X11_needThere l hfl G M (inB x (lN 0) (lN (un τ 26 26)) && decide (x < nI 6))) rfl (Nat.le_of_ble_eq_true rfl) ⟨Nat.le_of_ble_eq_true rfl, Nat.le_of_ble_eq_true rfl⟩ ⟨Nat.le_of_ble_eq_true rfl, Nat.le_of_ble_eq_true rfl⟩ dX11_element_16 rfl (fun E_ M_ h_ => x_3a h_) ⟨Nat.le_of_ble_eq_true rfl, Nat.le_of_ble_eq_true rfl⟩ ?_
  rintro _ _ ⟨rfl, rfl, hq1⟩
  have hq := hq1
  obtain ⟨c, hcn, hc6, e_x⟩ := et_2 (by omega) hq
  refine V.eLo (lo' := [(0, .ref (α 0)), (1, .int (nI c)), (2, .int y)]) (by rw [e_x]) ?_
  refine r_iload_n C 2 dX11_element_19 rfl rfl ?_
  refine r_iconst C (v := nI 0) dX11_element_20 (by decide) ?_
  refine r_bipush C (v := nI 63) dX11_element_21 (by decide) ?_
  refine r_callS C hgX ml_X11_59 st_X11_isWithin (c_X11_isWithin l hfl G M y (nI 0) (nI 63)) rfl (Nat.le_of_ble_eq_true rfl) ⟨Nat.le_of_ble_eq_true rfl, Nat.le_of_ble_eq_true rfl⟩ ⟨Nat.le_of_ble_eq_true rfl, Nat.le_of_ble_eq_true rfl⟩ dX11_element_23 rfl ?_
  rintro _ _ ⟨rfl, rfl⟩
  refine V.eSt (st' := [.int (bI (inB y (nI 0).toInt64 (nI 63).toInt64))]) rfl ?_
  refine V.ei (y := bI (inB y (lN 0) (lN 63))) rfl ?_
  refine r_xS C hgX hno ml_X11_64 st_X11_needFitting (c_X11_needFitting l hfl G M (inB y (lN 0) (lN 63))) rfl (Nat.le_of_ble_eq_true rfl) ⟨Nat.le_of_ble_eq_true rfl, Nat.le_of_ble_eq_true rfl⟩ ⟨Nat.le_of_ble_eq_true rfl, Nat.le_of_ble_eq_true rfl⟩ dX11_element_26 rfl (fun E_ M_ h_ => x_3b hq h_) ⟨Nat.le_of_ble_eq_true rfl, Nat.le_of_ble_eq_true rfl⟩ ?_
  rintro _ _ ⟨rfl, rfl, hq2⟩
  have hq2 := hq2
  obtain ⟨d, hd0, hd, e_y⟩ := inB_N (by decide) (by decide) hq2
  refine V.eLo (lo' := [(0, .ref (α 0)), (1, .int (nI c)), (2, .int (nI d))]) (by rw [e_y]) ?_
  have jn56 : V pp l ee ({ frames := 7, cells := 3, slots := 18, locals := 102 } : Room) ss mm ar bw mt cd G (vx_MQ bw (Ke G (fun v M' => PC τ G α M (cd3 (inB x (lN 0) (lN (un τ 26 26)) && decide (x < nI 6)) (inB y (lN 0) (lN 63)) (elB τ x)) (elU τ x.toNatClampNeg y.toNatClampNeg) (some (.int (nI (un τ 26 26 + (if x.toNatClampNeg = un τ 26 26 then 1 else 0))))) v M')) (Kx G (fun E M' => XP M (cd3 (inB x (lN 0) (lN (un τ 26 26)) && decide (x < nI 6)) (inB y (lN 0) (lN 63)) (elB τ x)) ["java/lang/IndexOutOfBoundsException", "java/lang/IllegalArgumentException", "java/lang/IllegalStateException"] E M')) ar ss 3 18 (gA G)) 3 M 2 12 56 [(0, .ref (α 0)), (1, .int (nI c)), (2, .int (nI d))] [.int (bI (elB τ x))] := by
    skip
    refine r_xS C hgX hno ml_X11_71 st_X11_needAllowed (c_X11_needAllowed l hfl G M (elB τ x)) rfl (Nat.le_of_ble_eq_true rfl) ⟨Nat.le_of_ble_eq_true rfl, Nat.le_of_ble_eq_true rfl⟩ ⟨Nat.le_of_ble_eq_true rfl, Nat.le_of_ble_eq_true rfl⟩ dX11_element_56 rfl (fun E_ M_ h_ => x_3c hq hq2 h_) ⟨Nat.le_of_ble_eq_true rfl, Nat.le_of_ble_eq_true rfl⟩ ?_
    rintro _ _ ⟨rfl, rfl, hq3⟩
    have hq3 := hq3
    have hq4 := hq3
    unfold elB at hq4
    rw [e_x, nI_clamp (n := c) (by omega), Bool.and_eq_true, decide_eq_true_iff, Bool.not_eq_true'] at hq4
    refine r_aload_n C 0 dX11_element_59 rfl rfl ?_
    refine r_getR C (b := (eO α 0)) fl_X11_31 rfl (hx.k 0 14 rfl) (hx.r 0 3 4 rfl) dX11_element_60 ?_
    refine r_iload_n C 1 dX11_element_63 rfl rfl ?_
    refine r_iload_n C 2 dX11_element_64 rfl rfl ?_
    refine r_callV C hgX (ci := 6) ml_X11_204 im_X4_make se_X4_make rfl rfl (hel.k 0 7 rfl) (c_X4_make l hfl G M (eO α) hel τ hw hef c d (by omega) (by omega) (by omega)) rfl (Nat.le_of_ble_eq_true rfl) ⟨Nat.le_of_ble_eq_true rfl, Nat.le_of_ble_eq_true rfl⟩ ⟨Nat.le_of_ble_eq_true rfl, Nat.le_of_ble_eq_true rfl⟩ dX11_element_65 rfl ?_
    rintro _ My4 ⟨rfl, hfm4, hel4⟩
    have hfe : frm (EtA α) M My4 := hfm4.mono (fun a h => by rcases h with h | h | h | h | h | h | h; exact ⟨0, by omega, h⟩; exact ⟨2 + c, by omega, h⟩; exact ⟨10 + c, by omega, h⟩; exact ⟨17, by omega, h⟩; exact ⟨18, by omega, h⟩; exact ⟨19, by omega, h⟩; exact ⟨20, by omega, h⟩)
    have hE := hel4
    have hwsO := hws
    have hws := hwsO.fr hfe (fun k hk => EtA.lc hwsO.1 hk)
    have hx := hws.2.1
    refine r_aload_n C 0 dX11_element_68 rfl rfl ?_
    refine r_callV C hgX (ci := 13) ml_X11_161 im_X11_makeAllStale se_X11_makeAllStale rfl rfl (hx.k 0 14 rfl) (c_X11_makeAllStale l hfl G My4 τ α hws) rfl (Nat.le_of_ble_eq_true rfl) ⟨Nat.le_of_ble_eq_true rfl, Nat.le_of_ble_eq_true rfl⟩ ⟨Nat.le_of_ble_eq_true rfl, Nat.le_of_ble_eq_true rfl⟩ dX11_element_69 rfl ?_
    rintro _ My5 ⟨rfl, hsa5, hsf5⟩
    have hcnt : mI My5 (eO α 0) 0 = nI (un τ 26 26 + (if c = un τ 26 26 then 1 else 0)) := (congrFun (hsa5.i (StA.no hws.1 (lv_s (show 4 + 0 < 476 by decide)) (fun p hp => by omega))) 0).trans (hE.1.trans (congrArg nI ((un_cg (arV_o _ (by decide))).trans (elS_n hw))))
    have hws2 := hws.fr hsa5 (fun k hk => StA.lc hws.1 hk)
    have hx := hws2.2.1
    have hel := hws2.el
    refine r_aload_n C 0 dX11_element_72 rfl rfl ?_
    refine r_getR C (b := (eO α 0)) fl_X11_31 rfl (hx.k 0 14 rfl) (hx.r 0 3 4 rfl) dX11_element_73 ?_
    refine r_getI C fl_X11_190 rfl (hel.k 0 7 rfl) dX11_element_76 ?_
    refine V.ei (y := nI (un τ 26 26 + (if c = un τ 26 26 then 1 else 0))) (hcnt) ?_
    refine V.xret ?_
    exact r_iret C hr (⟨k_3 hq hq2 hq3, by rw [e_x, nI_clamp (n := c) (by omega)], α, by rw [e_x, e_y, nI_clamp (n := c) (by omega), nI_clamp (n := d) (by omega)]; exact et_w hw (wf_element hw hcn hc6 hd hq4.1 hq4.2) hwsO hwt hwb hfe hE hsa5 hsf5, rfl, CF.tr2 hfe hsa5 (fun a h => EtA.lv h) (fun a h => StA.lv h), fun _ _ hz_ k_ hk_ => hz_ k_ (LV.u rfl rfl rfl rfl hk_)⟩) (by first | exact Nat.zero_le _ | decide) (by first | exact Nat.zero_le _ | decide) dX11_element_79
  refine r_aload_n C 0 dX11_element_29 rfl rfl ?_
  refine r_getR C (b := (eO α 0)) fl_X11_31 rfl (hx.k 0 14 rfl) (hx.r 0 3 4 rfl) dX11_element_30 ?_
  refine r_getI C fl_X11_198 rfl (hel.k 0 7 rfl) dX11_element_33 ?_
  refine V.ei (y := nI (fmD τ 6 (un τ 24 6))) (hef.2.1) ?_
  refine r_iconst C (v := nI 1) dX11_element_36 (by decide) ?_
  refine r_icmp_neN C (t := 55) (by omega) (by omega) dX11_element_37 (by decide) (fun c37 => ?_) (fun c37 => ?_)
  · skip
    refine r_iconst C (v := nI 0) dX11_element_55 (by decide) ?_
    refine V.eSt (st' := [.int (bI false)]) rfl ?_
    refine V.ei (y := bI (elB τ x)) (congrArg bI (by unfold elB; rw [e_x, nI_clamp (n := c) (by omega)]; simp [c37])) ?_
    exact jn56
  · skip
    refine r_aload_n C 0 dX11_element_40 rfl rfl ?_
    refine r_getR C (b := (eO α 0)) fl_X11_31 rfl (hx.k 0 14 rfl) (hx.r 0 3 4 rfl) dX11_element_41 ?_
    refine r_iload_n C 1 dX11_element_44 rfl rfl ?_
    refine r_callV C hgX (ci := 6) ml_X11_201 im_X4_wouldNeedItself se_X4_wouldNeedItself rfl rfl (hel.k 0 7 rfl) (c_X4_wouldNeedItself l hfl G M (eO α) hel τ hw hef c (by omega)) rfl (Nat.le_of_ble_eq_true rfl) ⟨Nat.le_of_ble_eq_true rfl, Nat.le_of_ble_eq_true rfl⟩ ⟨Nat.le_of_ble_eq_true rfl, Nat.le_of_ble_eq_true rfl⟩ dX11_element_45 rfl ?_
    rintro _ _ ⟨rfl, rfl⟩
    refine V.eSt (st' := [.int (bI ((rgR τ c 7).testBit c))]) rfl ?_
    refine r_if_neB C (t := 55) dX11_element_48 (by decide) (fun c48 => ?_) (fun c48 => ?_)
    · skip
      refine r_iconst C (v := nI 0) dX11_element_55 (by decide) ?_
      refine V.eSt (st' := [.int (bI false)]) rfl ?_
      refine V.ei (y := bI (elB τ x)) (congrArg bI (by unfold elB; rw [e_x, nI_clamp (n := c) (by omega)]; simp [c37, c48])) ?_
      exact jn56
    · skip
      refine r_iconst C (v := nI 1) dX11_element_51 (by decide) ?_
      refine r_goto C (t := 56) dX11_element_52 (by decide) ?_
      refine V.eSt (st' := [.int (bI true)]) rfl ?_
      refine V.ei (y := bI (elB τ x)) (congrArg bI (by unfold elB; rw [e_x, nI_clamp (n := c) (by omega)]; simp [c37, c48])) ?_
      exact jn56

