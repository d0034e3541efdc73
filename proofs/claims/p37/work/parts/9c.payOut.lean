/-! THE CLASS: payOut, file, fileMonth -/
def poU (τ : Mu) (c : Nat) (m : Nat) (d : Int64) : Mu := if lN 0 < d then payU τ c m d else τ
theorem file_y {f : Nat → Nat} {M : Mem} {m : Nat} {t cc : Int64} {b : Bool} (hb : Blk tbPl (mK M) (mN M) (mR M) f) (h : b = true ∧ (mL M (f 8) m ≠ t ∨ mL M (f 9) m ≠ cc)) : (none : Option Value) = none ∧ frm (fun a => a = f 8 ∨ a = f 9 ∨ a = f 10) M (wL (wL (wI M (f 10) m (mI M (f 10) m + nI 1)) (f 8) m t) (f 9) m cc) ∧ (∀ k, mL (wL (wL (wI M (f 10) m (mI M (f 10) m + nI 1)) (f 8) m t) (f 9) m cc) (f 8) k = if k = m then t else mL M (f 8) k) ∧ (∀ k, mL (wL (wL (wI M (f 10) m (mI M (f 10) m + nI 1)) (f 8) m t) (f 9) m cc) (f 9) k = if k = m then cc else mL M (f 9) k) ∧ ∀ k, mI (wL (wL (wI M (f 10) m (mI M (f 10) m + nI 1)) (f 8) m t) (f 9) m cc) (f 10) k = if k = m then mI M (f 10) k + (if b = true ∧ (mL M (f 8) m ≠ t ∨ mL M (f 9) m ≠ cc) then nI 1 else nI 0) else mI M (f 10) k := by
  refine ⟨rfl, (((frm.rf _ M).wi m _ (.inr (.inr rfl))).wl m _ (.inl rfl)).wl m _ (.inr (.inl rfl)), fun k => ?_, fun k => ?_, fun k => ?_⟩
  · refine (congrFun (wL_a (hb.ne 8 9 rfl)) k).trans ?_
    by_cases e : k = m
    · subst e; rw [if_pos rfl]; exact wL_i
    · rw [if_neg e]; exact wL_k e
  · by_cases e : k = m
    · subst e; rw [if_pos rfl]; exact wL_i
    · rw [if_neg e]; exact (wL_k e).trans (congrFun (wL_a (hb.ne 9 8 rfl)) k)
  · show mI (wI M (f 10) m (mI M (f 10) m + nI 1)) (f 10) k = _
    by_cases e : k = m
    · subst e; rw [if_pos rfl, if_pos h]; exact wI_i
    · rw [if_neg e]; exact wI_k e
theorem file_n {f : Nat → Nat} {M : Mem} {m : Nat} {t cc : Int64} {b : Bool} (hb : Blk tbPl (mK M) (mN M) (mR M) f) (h : ¬ (b = true ∧ (mL M (f 8) m ≠ t ∨ mL M (f 9) m ≠ cc))) : (none : Option Value) = none ∧ frm (fun a => a = f 8 ∨ a = f 9 ∨ a = f 10) M (wL (wL M (f 8) m t) (f 9) m cc) ∧ (∀ k, mL (wL (wL M (f 8) m t) (f 9) m cc) (f 8) k = if k = m then t else mL M (f 8) k) ∧ (∀ k, mL (wL (wL M (f 8) m t) (f 9) m cc) (f 9) k = if k = m then cc else mL M (f 9) k) ∧ ∀ k, mI (wL (wL M (f 8) m t) (f 9) m cc) (f 10) k = if k = m then mI M (f 10) k + (if b = true ∧ (mL M (f 8) m ≠ t ∨ mL M (f 9) m ≠ cc) then nI 1 else nI 0) else mI M (f 10) k := by
  refine ⟨rfl, ((frm.rf _ M).wl m _ (.inl rfl)).wl m _ (.inr (.inl rfl)), fun k => ?_, fun k => ?_, fun k => ?_⟩
  · refine (congrFun (wL_a (hb.ne 8 9 rfl)) k).trans ?_
    by_cases e : k = m
    · subst e; rw [if_pos rfl]; exact wL_i
    · rw [if_neg e]; exact wL_k e
  · by_cases e : k = m
    · subst e; rw [if_pos rfl]; exact wL_i
    · rw [if_neg e]; exact (wL_k e).trans (congrFun (wL_a (hb.ne 9 8 rfl)) k)
  · show mI M (f 10) k = _
    by_cases e : k = m
    · rw [if_pos e, if_neg h, show (nI 0 : Int32) = 0 from rfl, Int32.add_zero]
    · rw [if_neg e]
def fiU (τ : Mu) (n m : Nat) (t p : Int64) : Mu := sL (sL (sI τ 54 n (τ.1 54 n + (if m < un τ 46 46 ∧ (t ≠ τ.2 52 n ∨ p ≠ τ.2 53 n) then nI 1 else nI 0))) 52 n t) 53 n p
def FiA (α : Nat → Nat) (q a : Nat) : Prop := a = gO α q 8 ∨ a = gO α q 9 ∨ a = gO α q 10
theorem FiA.q {τ : Mu} {α : Nat → Nat} {q : Nat} (hq : q < 3) : QA τ α (FiA α q) := fun a h => by
  have key : ∀ o, 8 ≤ o → o < 11 → ∃ k, LV τ k ∧ QK k ∧ gO α q o = α k := fun o h1 h2 => ⟨_, lv_g hq (show o < 35 by omega), .inl ⟨by omega, by rintro (z | z | z | ⟨q, o, h1, h2, h3, z⟩) <;> omega, fun r hr => by omega⟩, rfl⟩
  rcases h with h | h | h
  · rw [h]; exact key 8 (by decide) (by decide)
  · rw [h]; exact key 9 (by decide) (by decide)
  · rw [h]; exact key 10 (by decide) (by decide)

theorem fi_w {τ : Mu} {G : gW} {α : Nat → Nat} {M M1 : Mem} {q m : Nat} {t p : Int64} (hq : q < 3) (hm : m < 24) (hw : WF τ) (ws : WS τ G α M) (wt : WT τ α M) (wb : WB τ α M) (f : frm (FiA α q) M M1) (v8 : ∀ k, mL M1 (gO α q 8) k = if k = m then t else mL M (gO α q 8) k) (v9 : ∀ k, mL M1 (gO α q 9) k = if k = m then p else mL M (gO α q 9) k)
    (v10 : ∀ k, mI M1 (gO α q 10) k = if k = m then mI M (gO α q 10) k + (if decide (m < un τ 46 46) = true ∧ (mL M (gO α q 8) m ≠ t ∨ mL M (gO α q 9) m ≠ p) then nI 1 else nI 0) else mI M (gO α q 10) k) : WD (fiU τ (24 * q + m) m t p) G α M1 := by
  have h9 := hw.nc.2
  have h44 := hw.ng.2
  have h17 := hw.nl.2
  have hU : ∀ k, k ≠ 54 → (fiU τ (24 * q + m) m t p).1 k = τ.1 k := fun k hk => sI_r hk
  have l2 : ∀ k, k ≠ 52 → k ≠ 53 → (fiU τ (24 * q + m) m t p).2 k = τ.2 k := fun k h1 h2 => by
    show up2 (up2 τ.2 52 (24 * q + m) t) 53 (24 * q + m) p k = _
    rw [up2_row _ _ h2, up2_row _ _ h1]
  have u54 : ∀ j, (fiU τ (24 * q + m) m t p).1 54 j = if j = 24 * q + m then τ.1 54 (24 * q + m) + (if m < un τ 46 46 ∧ (t ≠ τ.2 52 (24 * q + m) ∨ p ≠ τ.2 53 (24 * q + m)) then nI 1 else nI 0) else τ.1 54 j := fun j => by
    show up2 τ.1 54 (24 * q + m) (τ.1 54 (24 * q + m) + (if m < un τ 46 46 ∧ (t ≠ τ.2 52 (24 * q + m) ∨ p ≠ τ.2 53 (24 * q + m)) then nI 1 else nI 0)) 54 j = _
    by_cases e : j = 24 * q + m
    · rw [if_pos e, e]; exact up2_same _ _ _ _
    · rw [if_neg e]; exact up2_k _ _ e
  have u52 : ∀ j, (fiU τ (24 * q + m) m t p).2 52 j = if j = 24 * q + m then t else τ.2 52 j := fun j => by
    show up2 (up2 τ.2 52 (24 * q + m) t) 53 (24 * q + m) p 52 j = _
    rw [up2_row _ _ (by decide)]
    by_cases e : j = 24 * q + m
    · rw [if_pos e, e, up2_same]
    · rw [if_neg e, up2_k _ _ e]
  have u53 : ∀ j, (fiU τ (24 * q + m) m t p).2 53 j = if j = 24 * q + m then p else τ.2 53 j := fun j => by
    show up2 (up2 τ.2 52 (24 * q + m) t) 53 (24 * q + m) p 53 j = _
    by_cases e : j = 24 * q + m
    · rw [if_pos e, e, up2_same]
    · rw [if_neg e, up2_k _ _ e, up2_row _ _ (by decide)]
  generalize fiU τ (24 * q + m) m t p = U at hU l2 u54 u52 u53 ⊢
  have qa : QA τ α (FiA α q) := FiA.q hq
  have n : ∀ k, LV τ k → ¬ (379 + 35 * q ≤ k ∧ k < 382 + 35 * q) → ¬ FiA α q (α k) := fun k hk h z => by
    rcases z with z | z | z
    · have := ws.1 _ _ hk (lv_g hq (show 8 < 35 by decide)) z; omega
    · have := ws.1 _ _ hk (lv_g hq (show 9 < 35 by decide)) z; omega
    · have := ws.1 _ _ hk (lv_g hq (show 10 < 35 by decide)) z; omega
  have ws1 := (qa.ws f ws).u (U := U) (hU 0 (by decide)) (hU 9 (by decide)) (hU 14 (by decide)) (hU 15 (by decide)) (hU 17 (by decide)) (hU 38 (by decide)) (hU 40 (by decide)) (hU 44 (by decide)) (hU 51 (by decide))
  have wb1 := WB.vp (U := U) (fun r hr => VP.of hw (fun k hk => hU k (by omega)) (fun m _ => by rw [l2 45 (by decide) (by decide)])) (hU 9 (by decide)) (qa.wb hw ws.1 f wb)
  have e9 := congrFun (un_e (hU 9 (by decide))) 9
  obtain ⟨w1, w2, w3, w4, w5⟩ := wt
  refine ⟨ws1, ⟨fun c hc => ?_, fun r hr => ?_, fun x hx => ?_, ?_, ?_⟩, wb1⟩
  · rw [e9] at hc
    exact ((w1 c hc).cg (fun k _ => congrFun (f.i (n _ (lv_c hc (show 0 < 10 by decide)) (by omega))) k) (fun o _ ho => f.i (n _ (lv_c hc (show o < 10 by omega)) (by omega)))).u (fun k hk => hU k (by omega))
  · exact ((w2 r hr).cg (fun o ho => f.i (n _ (lv_h hr (show o < 57 by omega)) (by omega))) (fun o ho => f.l (n _ (lv_h hr (show o < 57 by omega)) (by omega)))).u (hU 30 (by decide)) (hU 36 (by decide)) (hU 37 (by decide)) (hU 47 (by decide)) (hU 50 (by decide)) (hU 51 (by decide)) (l2 45 (by decide) (by decide)) (l2 49 (by decide) (by decide))
  · obtain ⟨b1, b2, b3, b4⟩ := w3 x hx
    have no : ∀ o, o < 35 → ¬ (8 ≤ o ∧ o < 11) ∨ x ≠ q → mI M1 (gO α x o) = mI M (gO α x o) ∧ mL M1 (gO α x o) = mL M (gO α x o) := fun o ho h => by
      have y := n _ (lv_g hx ho) (by rcases h with h | h; omega; rcases Nat.lt_trichotomy x q with z | z | z <;> omega)
      exact ⟨f.i y, f.l y⟩
    refine ⟨?_, ?_, fun s hs => (BrF.cg (b3 s hs) (fun o ho => (no (11 + 12 * s + o) (by omega) (.inl (by omega))).1)).u (hU 33 (by decide)) (hU 34 (by decide)) (hU 35 (by decide)), fun k hk => ?_⟩
    · rw [show crV U x = crV τ x by unfold crV; rw [hU 31 (by decide)]]
      unfold StV
      rw [(no 2 (by decide) (.inl (by omega))).1, (no 3 (by decide) (.inl (by omega))).1]
      exact b1
    · rw [show clV U x = clV τ x by unfold clV; rw [hU 31 (by decide), hU 32 (by decide)]]
      unfold StV
      rw [(no 5 (by decide) (.inl (by omega))).1, (no 6 (by decide) (.inl (by omega))).1]
      exact b2
    · obtain ⟨c1, c2, c3⟩ := b4 k hk
      rw [u52, u53, u54]
      by_cases e : x = q
      · subst e
        rw [v8, v9, v10]
        by_cases y : k = m
        · subst y
          rw [if_pos rfl, if_pos rfl, if_pos rfl, if_pos rfl, if_pos rfl, if_pos rfl, c1, c2, c3]
          refine ⟨rfl, rfl, congrArg (τ.1 54 (24 * x + k) + ·) (if_cg ?_)⟩
          rw [decide_eq_true_iff]
          exact ⟨fun h => ⟨h.1, h.2.imp Ne.symm Ne.symm⟩, fun h => ⟨h.1, h.2.imp Ne.symm Ne.symm⟩⟩
        · rw [if_neg y, if_neg y, if_neg y, if_neg (by omega), if_neg (by omega), if_neg (by omega)]
          exact ⟨c1, c2, c3⟩
      · rw [(no 8 (by decide) (.inr e)).2, (no 9 (by decide) (.inr e)).2, (no 10 (by decide) (.inr e)).1, if_neg (by rcases Nat.lt_trichotomy x q with z | z | z <;> omega), if_neg (by rcases Nat.lt_trichotomy x q with z | z | z <;> omega), if_neg (by rcases Nat.lt_trichotomy x q with z | z | z <;> omega)]
        exact ⟨c1, c2, c3⟩
  · obtain ⟨b1, b2, b3, b4, b5, b6, b7⟩ := w4
    have e0 := f.i (n 0 (lv_s (by decide)) (by omega))
    unfold WTx
    rw [e0, un_e (hU 13 (by decide)), un_e (hU 17 (by decide)), un_e (hU 18 (by decide)), un_e (hU 19 (by decide)), un_e (hU 20 (by decide)), un_e (hU 46 (by decide))]
    exact ⟨b1, b2, b3, b4, b5, b6, (b7.cgs (fun o ho => f.i (n (4 + o) (lv_s (by omega)) (by omega)))).u (hU 22 (by decide)) (hU 23 (by decide)) (hU 24 (by decide)) (hU 25 (by decide)) (hU 26 (by decide)) (hU 27 (by decide))⟩
  · exact (w5.cg (fun k hk => congrFun (f.i (n _ (lv_l hk) (by omega))) 1) (fun g hg => f.i (n _ (lv_a hg (show 0 < 2 by decide)) (by omega))) (fun k hk => ⟨f.i (n _ (lv_y hk) (by omega)), f.l (n _ (lv_y hk) (by omega))⟩)).u (hU 15 (by decide)) (hU 17 (by decide)) (fun k a b => hU k (by omega)) (hU 47 (by decide)) (hU 48 (by decide)) (hU 50 (by decide)) (hU 51 (by decide)) (l2 49 (by decide) (by decide))
set_option maxHeartbeats 1000000 in
set_option maxRecDepth 100000 in
theorem c_X11_payOut (l : Launch) (hfl : l.flags = flags0) (G : gW) (M : Mem) (τ : Mu) (hw : WF τ) (α : Nat → Nat) (hws : WS τ G α M) (hwt : WT τ α M) (hwb : WB τ α M) (had : ∀ p, p < 6 → AD τ p) (c : Nat) (hc : c < 6) (hpy : ∀ m, m < 24 → mL M (bO α c 41) m = pyL τ c m) (ho : un τ 46 46 < 24) (hn : un τ 51 51 < 144) : CT l yX11_payOut cX11_payOut 4 none 7 2 304 229 G M [.ref (α 0), .ref (hO α c 0)] (fun v M' => v = none ∧ ∃ β, (WD (poU τ c (un τ 46 46) (pdL τ c (sumL (pyL τ c) (un τ 46 46 + 1)) (un τ 51 51))) G β M' ∧ XT τ α M (poU τ c (un τ 46 46) (pdL τ c (sumL (pyL τ c) (un τ 46 46 + 1)) (un τ 51 51))) β) ∧ (∀ r, r < 6 → mI M' (bO α r 0) 0 = mI M (bO α r 0) 0) ∧ CF τ α M M' ∧ KK M M') := by
  refine CT.of hfl rfl (Nat.le_of_ble_eq_true rfl) ?_
  intro pp ee ss mm ar bw mt cd C hgX hr hini
  have hx := hws.2.1
  have hbp := (hws.2.2.1 c hc).1
  have h46 := hw.op.2
  refine V.eLo (lo' := [(0, .ref (α 0)), (1, .ref (hO α c 0))]) rfl ?_
  refine r_aload_n C 0 dX11_payOut_0 rfl rfl ?_
  refine r_aload_n C 1 dX11_payOut_1 rfl rfl ?_
  refine r_callV C hgX (ci := 13) ml_X11_330 im_X11_unpaid se_X11_unpaid rfl rfl (hx.k 0 14 rfl) (c_X11_unpaid l hfl G M τ hw α hws hwt hwb had c hc hpy) rfl (Nat.le_of_ble_eq_true rfl) ⟨Nat.le_of_ble_eq_true rfl, Nat.le_of_ble_eq_true rfl⟩ ⟨Nat.le_of_ble_eq_true rfl, Nat.le_of_ble_eq_true rfl⟩ dX11_payOut_2 rfl ?_
  rintro _ _ ⟨rfl, rfl⟩
  refine V.eSt (st' := [.long (pdL τ c (sumL (pyL τ c) ((if un τ 46 46 = 24 then 23 else un τ 46 46) + 1)) (un τ 51 51))]) rfl ?_
  refine V.el (y := pdL τ c (sumL (pyL τ c) (un τ 46 46 + 1)) (un τ 51 51)) (by rw [if_neg (by omega)]) ?_
  refine r_lstore_n C (lo' := [(2, .long (pdL τ c (sumL (pyL τ c) (un τ 46 46 + 1)) (un τ 51 51))), (0, .ref (α 0)), (1, .ref (hO α c 0))]) dX11_payOut_5 rfl (by decide) rfl ?_
  refine r_lload_n C 0 dX11_payOut_6 rfl rfl ?_
  refine r_lconst C (v := lN 0) dX11_payOut_7 (by decide) ?_
  refine r_lcmp_le C (t := 46) dX11_payOut_8 dX11_payOut_9 (by decide) (fun c9 => ?_) (fun c9 => ?_)
  · skip
    exact r_vret C hr (⟨rfl, α, by rw [show poU τ c (un τ 46 46) (pdL τ c (sumL (pyL τ c) (un τ 46 46 + 1)) (un τ 51 51)) = τ from if_neg (Int64.not_lt.mpr c9)]; exact ⟨⟨hws, hwt, hwb⟩, XT.rf⟩, fun r hr => rfl, CF.rf, fun x hx => rfl⟩) (by first | exact Nat.zero_le _ | decide) (by first | exact Nat.zero_le _ | decide) dX11_payOut_46
  · skip
    refine r_aload_n C 1 dX11_payOut_12 rfl rfl ?_
    refine r_getR C (b := (α 28)) fl_X11_38 rfl (hx.k 0 14 rfl) (hx.r 0 5 28 rfl) dX11_payOut_13 ?_
    obtain ⟨sz, el, ix, hlw⟩ := hws.ls
    have hwx := hwt.2.2.2.1
    refine V.mark C (fun zz hgz hz => ?_)
    refine r_new C (q := zz) nl_X11_315 (hgz) (hz _ (Nat.le_refl _)) (va_up_self _ _ _) (Nat.le_of_ble_eq_true rfl) (Nat.le_of_ble_eq_true rfl) dX11_payOut_16 ?_
    have hC := NB.cell (T := tbPa) (e0 := gS G 0) (M := mMk M zz) (q := zz) hz (κ := 10) ⟨rfl, rfl⟩
    generalize (wMk (mMk M zz) zz 10 0) = Mc1 at hC ⊢
    have hkC : ∀ A B, KP A B M Mc1 := fun A B => (KP.mk hz).tr (hC.kp hz)
    have hXC := hws.xk (hkC (fun _ => False) (fun _ => False)) (fun _ _ _ h => h)
    have hx := hXC.1
    have hbp := (hXC.2 c hc).1
    have hvC : ∀ k, LV τ k → mI Mc1 (α k) = mI M (α k) := fun k hk => ((hkC (fun _ => False) (fun _ => False) _ (hws.kn hk)).2.2.1 (fun h => h)).1
    refine r_dup C dX11_payOut_19 rfl ?_
    refine r_aload_n C 2 dX11_payOut_20 rfl rfl ?_
    refine r_getI C fl_X11_343 rfl (hbp.k 0 11 rfl) dX11_payOut_21 ?_
    refine V.ei (y := nI c) ((congrFun (hvC _ (lv_h hc (show 0 < 57 by decide))) 0).trans (hwt.2.1 c hc).1) ?_
    refine r_aload_n C 1 dX11_payOut_24 rfl rfl ?_
    refine r_getI C fl_X11_295 rfl (hx.k 0 14 rfl) dX11_payOut_25 ?_
    refine V.ei (y := nI (un τ 46 46)) ((congrFun (hvC 0 (lv_s (by decide))) 11).trans hwx.2.2.2.2.2.1) ?_
    refine r_lload_n C 0 dX11_payOut_28 rfl rfl ?_
    refine r_callI C hgX ml_X11_346 im_X7_init rfl (c_X7_init l hfl G Mc1 (mMk M zz) zz (by omega) hC (nI c) (nI (un τ 46 46)) (pdL τ c (sumL (pyL τ c) (un τ 46 46 + 1)) (un τ 51 51))) rfl (Nat.le_of_ble_eq_true rfl) ⟨Nat.le_of_ble_eq_true rfl, Nat.le_of_ble_eq_true rfl⟩ ⟨Nat.le_of_ble_eq_true rfl, Nat.le_of_ble_eq_true rfl⟩ dX11_payOut_29 rfl ?_
    rintro _ My2 ⟨rfl, hS⟩
    have hk02 : ∀ A B, KP A B M My2 := fun A B => (KP.mk hz).tr (hS.kp hz)
    have hlz2 : LZ G α My2 sz el := hlw.1.kp (hk02 (fun _ => False) (fun _ => False)) (fun _ _ h => h) (fun _ _ h => h)
    have hX2 := hws.xk (hk02 (fun _ => False) (fun _ => False)) (fun _ _ _ h => h)
    have hx := hX2.1
    have hkz2 : mK My2 zz = 10 := (hS.1 0 (by decide)).1
    have hL2 : LI G My2 9 (α 28) (sz 28) (el 28) := hlz2.1 28 (.inr (.inr (.inl rfl)))
    have hsz1 : sz 28 = un τ 51 51 := hlw.2.2.2.1.1
    refine V.stat hgX (fun hst2 => ?_)
    refine r_callV C hgX (ci := 2) ml_X11_89 im_Jx4a65c_add_9ea2d se_Jx4a65c_add_9ea2d rfl rfl (hx.k 28 3 rfl) (c_Jx4a65c_add_9ea2d l hfl G My2 9 (α 28) (sz 28) (el 28) _ rfl (by decide) hL2 (by omega) zz hkz2) rfl (Nat.le_of_ble_eq_true rfl) ⟨Nat.le_of_ble_eq_true rfl, Nat.le_of_ble_eq_true rfl⟩ ⟨Nat.le_of_ble_eq_true rfl, Nat.le_of_ble_eq_true rfl⟩ dX11_payOut_32 rfl ?_
    rintro _ My3 ⟨rfl, d3, hd3, hLI3, hLF3⟩
    refine V.eSt (st' := [.int (nI 1)]) rfl ?_
    have hk23 : KP (LX α (fun k => k = 28)) (LB α (fun k => k = 28) My2) My2 My3 := (KP.rf).lfb hst2 hL2 hd3 hLF3 ⟨28, .inr (.inr (.inl rfl)), rfl, rfl⟩ (fun x hx => hx.elim (fun h => .inl ⟨28, .inr (.inr (.inl rfl)), rfl, h⟩) .inr)
    have hlz3 := hlz2.add (fun i j hi hj => hws.1 i j hi.lv hj.lv) (.inr (.inr (.inl rfl))) hd3 hst2 hLI3 hLF3
    have hk03 := KP.join hk02 hk23
    have hX3 := hws.xk hk03 (fun k hk hn => LB.no hws hk (fun z => hn z.1))
    have hx := hX3.1
    have hbp := (hX3.2 c hc).1
    have hPM := pm_w hw hws hwt hwb hn hc (show un τ 46 46 ≤ 23 by omega) hz hS hlw hk23 hlz3
    refine r_pop C dX11_payOut_35 rfl ?_
    refine r_aload_n C 2 dX11_payOut_36 rfl rfl ?_
    refine r_dup C dX11_payOut_37 rfl ?_
    refine r_getL C fl_X11_327 rfl (hbp.k 0 11 rfl) dX11_payOut_38 ?_
    refine r_lload_n C 0 dX11_payOut_41 rfl rfl ?_
    refine r_ladd C dX11_payOut_42 ?_
    refine r_putL C fl_X11_327 (hbp.k 0 11 rfl) dX11_payOut_43 ?_
    exact r_vret C hr (⟨rfl, nw α (1300 + un τ 51 51) 1 zz, by rw [show poU τ c (un τ 46 46) (pdL τ c (sumL (pyL τ c) (un τ 46 46 + 1)) (un τ 51 51)) = payU τ c (un τ 46 46) (pdL τ c (sumL (pyL τ c) (un τ 46 46 + 1)) (un τ 51 51)) from if_pos (Int64.not_le.mp c9)]; exact ⟨hPM.1, hPM.2.1⟩, hPM.2.2.1, hPM.2.2.2.1, hPM.2.2.2.2⟩) (by first | exact Nat.zero_le _ | decide) (by first | exact Nat.zero_le _ | decide) dX11_payOut_46
set_option maxHeartbeats 1000000 in
set_option maxRecDepth 100000 in
theorem c_X9_file (l : Launch) (hfl : l.flags = flags0) (G : gW) (M : Mem) (f : Nat → Nat) (hb : Blk tbPl (mK M) (mN M) (mR M) f) (m : Nat) (hm : m < 24) (t cc : Int64) (b : Bool) : CT l yX9_file cX9_file 7 none 0 0 0 0 G M [.ref (f 0), .int (nI m), .long t, .long cc, .int (bI b)] (fun v M' => v = none ∧ frm (fun a => a = f 8 ∨ a = f 9 ∨ a = f 10) M M' ∧ (∀ k, mL M' (f 8) k = if k = m then t else mL M (f 8) k) ∧ (∀ k, mL M' (f 9) k = if k = m then cc else mL M (f 9) k) ∧ ∀ k, mI M' (f 10) k = if k = m then mI M (f 10) k + (if b = true ∧ (mL M (f 8) m ≠ t ∨ mL M (f 9) m ≠ cc) then nI 1 else nI 0) else mI M (f 10) k) := by
  refine CT.of hfl rfl (Nat.le_of_ble_eq_true rfl) ?_
  intro pp ee ss mm ar bw mt cd C hgX hr hini
  refine V.eLo (lo' := [(0, .ref (f 0)), (1, .int (nI m)), (2, .long t), (4, .long cc), (6, .int (bI b))]) rfl ?_
  refine r_iload C 4 dX9_file_0 rfl ?_
  refine r_if_eqB C (t := 38) dX9_file_2 (by decide) (fun c2 => ?_) (fun c2 => ?_)
  · skip
    refine r_aload_n C 0 dX9_file_38 rfl rfl ?_
    refine r_getR C (b := (f 8)) fl_X9_29 rfl (hb.k 0 12 rfl) (hb.r 0 3 8 rfl) dX9_file_39 ?_
    refine r_iload_n C 1 dX9_file_42 rfl rfl ?_
    refine r_lload_n C 2 dX9_file_43 rfl rfl ?_
    refine r_lastoreN C (hb.k 8 21 rfl) (hb.n 8 24 rfl) (by omega) (by omega) dX9_file_44 ?_
    refine r_aload_n C 0 dX9_file_45 rfl rfl ?_
    refine r_getR C (b := (f 9)) fl_X9_33 rfl (hb.k 0 12 rfl) (hb.r 0 4 9 rfl) dX9_file_46 ?_
    refine r_iload_n C 1 dX9_file_49 rfl rfl ?_
    refine r_lload C 3 dX9_file_50 rfl ?_
    refine r_lastoreN C (hb.k 9 21 rfl) (hb.n 9 24 rfl) (by omega) (by omega) dX9_file_52 ?_
    exact r_vret C hr (file_n hb (fun h => absurd (h.1.symm.trans c2) (by decide))) (by first | exact Nat.zero_le _ | decide) (by first | exact Nat.zero_le _ | decide) dX9_file_53
  · skip
    refine r_aload_n C 0 dX9_file_5 rfl rfl ?_
    refine r_getR C (b := (f 8)) fl_X9_29 rfl (hb.k 0 12 rfl) (hb.r 0 3 8 rfl) dX9_file_6 ?_
    refine r_iload_n C 1 dX9_file_9 rfl rfl ?_
    refine r_laloadN C (hb.k 8 21 rfl) (hb.n 8 24 rfl) (by omega) (by omega) dX9_file_10 ?_
    refine r_lload_n C 2 dX9_file_11 rfl rfl ?_
    refine r_lcmp_ne C (t := 28) dX9_file_12 dX9_file_13 (by decide) (fun c13 => ?_) (fun c13 => ?_)
    · skip
      refine r_aload_n C 0 dX9_file_28 rfl rfl ?_
      refine r_getR C (b := (f 10)) fl_X9_36 rfl (hb.k 0 12 rfl) (hb.r 0 5 10 rfl) dX9_file_29 ?_
      refine r_iload_n C 1 dX9_file_32 rfl rfl ?_
      refine r_dup2 C dX9_file_33 rfl rfl ?_
      refine r_ialoadN C (hb.k 10 20 rfl) (hb.n 10 24 rfl) (by omega) (by omega) dX9_file_34 ?_
      refine r_iconst C (v := nI 1) dX9_file_35 (by decide) ?_
      refine r_iadd C dX9_file_36 ?_
      refine r_iastoreN C (hb.k 10 20 rfl) (hb.n 10 24 rfl) (by omega) (by omega) dX9_file_37 ?_
      refine r_aload_n C 0 dX9_file_38 rfl rfl ?_
      refine r_getR C (b := (f 8)) fl_X9_29 rfl (hb.k 0 12 rfl) (hb.r 0 3 8 rfl) dX9_file_39 ?_
      refine r_iload_n C 1 dX9_file_42 rfl rfl ?_
      refine r_lload_n C 2 dX9_file_43 rfl rfl ?_
      refine r_lastoreN C (hb.k 8 21 rfl) (hb.n 8 24 rfl) (by omega) (by omega) dX9_file_44 ?_
      refine r_aload_n C 0 dX9_file_45 rfl rfl ?_
      refine r_getR C (b := (f 9)) fl_X9_33 rfl (hb.k 0 12 rfl) (hb.r 0 4 9 rfl) dX9_file_46 ?_
      refine r_iload_n C 1 dX9_file_49 rfl rfl ?_
      refine r_lload C 3 dX9_file_50 rfl ?_
      refine r_lastoreN C (hb.k 9 21 rfl) (hb.n 9 24 rfl) (by omega) (by omega) dX9_file_52 ?_
      exact r_vret C hr (file_y hb ⟨c2, .inl c13⟩) (by first | exact Nat.zero_le _ | decide) (by first | exact Nat.zero_le _ | decide) dX9_file_53
    · skip
      refine r_aload_n C 0 dX9_file_16 rfl rfl ?_
      refine r_getR C (b := (f 9)) fl_X9_33 rfl (hb.k 0 12 rfl) (hb.r 0 4 9 rfl) dX9_file_17 ?_
      refine r_iload_n C 1 dX9_file_20 rfl rfl ?_
      refine r_laloadN C (hb.k 9 21 rfl) (hb.n 9 24 rfl) (by omega) (by omega) dX9_file_21 ?_
      refine r_lload C 3 dX9_file_22 rfl ?_
      refine r_lcmp_eq C (t := 38) dX9_file_24 dX9_file_25 (by decide) (fun c25 => ?_) (fun c25 => ?_)
      · skip
        refine r_aload_n C 0 dX9_file_38 rfl rfl ?_
        refine r_getR C (b := (f 8)) fl_X9_29 rfl (hb.k 0 12 rfl) (hb.r 0 3 8 rfl) dX9_file_39 ?_
        refine r_iload_n C 1 dX9_file_42 rfl rfl ?_
        refine r_lload_n C 2 dX9_file_43 rfl rfl ?_
        refine r_lastoreN C (hb.k 8 21 rfl) (hb.n 8 24 rfl) (by omega) (by omega) dX9_file_44 ?_
        refine r_aload_n C 0 dX9_file_45 rfl rfl ?_
        refine r_getR C (b := (f 9)) fl_X9_33 rfl (hb.k 0 12 rfl) (hb.r 0 4 9 rfl) dX9_file_46 ?_
        refine r_iload_n C 1 dX9_file_49 rfl rfl ?_
        refine r_lload C 3 dX9_file_50 rfl ?_
        refine r_lastoreN C (hb.k 9 21 rfl) (hb.n 9 24 rfl) (by omega) (by omega) dX9_file_52 ?_
        exact r_vret C hr (file_n hb (fun h => h.2.elim (fun y => y c13) (fun y => y c25))) (by first | exact Nat.zero_le _ | decide) (by first | exact Nat.zero_le _ | decide) dX9_file_53
      · skip
        refine r_aload_n C 0 dX9_file_28 rfl rfl ?_
        refine r_getR C (b := (f 10)) fl_X9_36 rfl (hb.k 0 12 rfl) (hb.r 0 5 10 rfl) dX9_file_29 ?_
        refine r_iload_n C 1 dX9_file_32 rfl rfl ?_
        refine r_dup2 C dX9_file_33 rfl rfl ?_
        refine r_ialoadN C (hb.k 10 20 rfl) (hb.n 10 24 rfl) (by omega) (by omega) dX9_file_34 ?_
        refine r_iconst C (v := nI 1) dX9_file_35 (by decide) ?_
        refine r_iadd C dX9_file_36 ?_
        refine r_iastoreN C (hb.k 10 20 rfl) (hb.n 10 24 rfl) (by omega) (by omega) dX9_file_37 ?_
        refine r_aload_n C 0 dX9_file_38 rfl rfl ?_
        refine r_getR C (b := (f 8)) fl_X9_29 rfl (hb.k 0 12 rfl) (hb.r 0 3 8 rfl) dX9_file_39 ?_
        refine r_iload_n C 1 dX9_file_42 rfl rfl ?_
        refine r_lload_n C 2 dX9_file_43 rfl rfl ?_
        refine r_lastoreN C (hb.k 8 21 rfl) (hb.n 8 24 rfl) (by omega) (by omega) dX9_file_44 ?_
        refine r_aload_n C 0 dX9_file_45 rfl rfl ?_
        refine r_getR C (b := (f 9)) fl_X9_33 rfl (hb.k 0 12 rfl) (hb.r 0 4 9 rfl) dX9_file_46 ?_
        refine r_iload_n C 1 dX9_file_49 rfl rfl ?_
        refine r_lload C 3 dX9_file_50 rfl ?_
        refine r_lastoreN C (hb.k 9 21 rfl) (hb.n 9 24 rfl) (by omega) (by omega) dX9_file_52 ?_
        exact r_vret C hr (file_y hb ⟨c2, .inr c25⟩) (by first | exact Nat.zero_le _ | decide) (by first | exact Nat.zero_le _ | decide) dX9_file_53
set_option maxHeartbeats 1000000 in
set_option maxRecDepth 100000 in
theorem c_X11_fileMonth (l : Launch) (hfl : l.flags = flags0) (G : gW) (M : Mem) (τ : Mu) (hw : WF τ) (α : Nat → Nat) (hws : WS τ G α M) (hwt : WT τ α M) (hwb : WB τ α M) (had : ∀ p, p < 6 → AD τ p) (q m : Nat) (hq : q < 3) (hm : m < 24) (ho : un τ 46 46 < 24) (hfr : ∀ r, r < 6 → mI M (bO α r 0) 0 = 0) : CT l yX11_fileMonth cX11_fileMonth 9 none 1 0 0 26 G M [.ref (α 0), .int (nI q), .int (nI m)] (fun v M' => v = none ∧ WD (fiU τ (24 * q + m) m (sumL (fun i => taL τ i m q) 6) (sumL (fun i => coL τ i m q) 6)) G α M' ∧ frm (FiA α q) M M') := by
  refine CT.of hfl rfl (Nat.le_of_ble_eq_true rfl) ?_
  intro pp ee ss mm ar bw mt cd C hgX hr hini
  have hx := hws.2.1
  have hwx := hwt.2.2.2.1
  have hg := (hws.2.2.2.1 q hq).1
  refine V.eLo (lo' := [(0, .ref (α 0)), (1, .int (nI q)), (2, .int (nI m))]) rfl ?_
  refine r_lconst C (v := lN 0) dX11_fileMonth_0 (by decide) ?_
  refine r_lstore_n C (lo' := [(3, .long (lN 0)), (0, .ref (α 0)), (1, .int (nI q)), (2, .int (nI m))]) dX11_fileMonth_1 rfl (by decide) rfl ?_
  refine r_lconst C (v := lN 0) dX11_fileMonth_2 (by decide) ?_
  refine r_lstore C (lo' := [(5, .long (lN 0)), (3, .long (lN 0)), (0, .ref (α 0)), (1, .int (nI q)), (2, .int (nI m))]) dX11_fileMonth_3 (by decide) rfl ?_
  refine r_iconst C (v := nI 0) dX11_fileMonth_5 (by decide) ?_
  refine r_istore C (lo' := [(7, .int (nI 0)), (5, .long (lN 0)), (3, .long (lN 0)), (0, .ref (α 0)), (1, .int (nI q)), (2, .int (nI m))]) dX11_fileMonth_6 (by decide) rfl ?_
  have lp8 : ∀ (k8 : Nat) (r : Nat) (hr6 : r ≤ 6), 7 - r < k8 → V pp l ee ({ frames := 1, cells := 0, slots := 0, locals := 26 } : Room) ss mm ar bw mt cd G (MQ bw (Ke G (fun v M' => v = none ∧ WD (fiU τ (24 * q + m) m (sumL (fun i => taL τ i m q) 6) (sumL (fun i => coL τ i m q) 6)) G α M' ∧ frm (FiA α q) M M')) ar ss 0 0 (gA G)) 9 M 0 0 8 [(0, .ref (α 0)), (1, .int (nI q)), (2, .int (nI m)), (3, .long (sumL (fun i => taL τ i m q) r)), (5, .long (sumL (fun i => coL τ i m q) r)), (7, .int (nI r))] [] := by
    intro k8
    induction k8 with
    | zero => intro r hr6 hz8; exact absurd hz8 (Nat.not_lt_zero _)
    | succ k8 ih8 =>
      intro r hr6 hz8
      refine r_iload C 5 dX11_fileMonth_8 rfl ?_
      refine r_bipush C (v := nI 6) dX11_fileMonth_10 (by decide) ?_
      refine r_icmp_geN C (t := 59) (by omega) (by omega) dX11_fileMonth_12 (by decide) (fun c12 => ?_) (fun c12 => ?_)
      · skip
        have er : r = 6 := by omega
        subst er
        refine r_aload_n C 0 dX11_fileMonth_59 rfl rfl ?_
        refine r_getR C (b := (α 3)) fl_X11_24 rfl (hx.k 0 14 rfl) (hx.r 0 2 3 rfl) dX11_fileMonth_60 ?_
        refine r_iload_n C 1 dX11_fileMonth_63 rfl rfl ?_
        refine r_aaloadN C (b := (gO α q 0)) 2 (by decide) (hx.k 3 25 rfl) (hx.n 3 3 rfl) (by omega) (by omega) (hws.2.2.2.1 q (by omega)).2 dX11_fileMonth_64 ?_
        refine r_iload_n C 2 dX11_fileMonth_65 rfl rfl ?_
        refine r_lload_n C 3 dX11_fileMonth_66 rfl rfl ?_
        refine r_lload C 4 dX11_fileMonth_67 rfl ?_
        have jn82 : V pp l ee ({ frames := 1, cells := 0, slots := 0, locals := 26 } : Room) ss mm ar bw mt cd G (MQ bw (Ke G (fun v M' => v = none ∧ WD (fiU τ (24 * q + m) m (sumL (fun i => taL τ i m q) 6) (sumL (fun i => coL τ i m q) 6)) G α M' ∧ frm (FiA α q) M M')) ar ss 0 0 (gA G)) 9 M 0 0 82 [(0, .ref (α 0)), (1, .int (nI q)), (2, .int (nI m)), (3, .long (sumL (fun i => taL τ i m q) 6)), (5, .long (sumL (fun i => coL τ i m q) 6)), (7, .int (nI 6))] [.int (bI (decide (m < un τ 46 46))), .long (sumL (fun i => coL τ i m q) 6), .long (sumL (fun i => taL τ i m q) 6), .int (nI m), .ref (gO α q 0)] := by
          skip
          refine r_callV C hgX (ci := 11) ml_X11_358 im_X9_file se_X9_file rfl rfl (hg.k 0 12 rfl) (c_X9_file l hfl G M (gO α q) hg m hm (sumL (fun i => taL τ i m q) 6) (sumL (fun i => coL τ i m q) 6) (decide (m < un τ 46 46))) rfl (Nat.le_of_ble_eq_true rfl) ⟨Nat.le_of_ble_eq_true rfl, Nat.le_of_ble_eq_true rfl⟩ ⟨Nat.le_of_ble_eq_true rfl, Nat.le_of_ble_eq_true rfl⟩ dX11_fileMonth_82 rfl ?_
          rintro _ My1 ⟨rfl, hfm1, hv81, hv91, hv101⟩
          exact r_vret C hr (⟨rfl, fi_w hq hm hw hws hwt hwb hfm1 hv81 hv91 hv101, hfm1⟩) (by first | exact Nat.zero_le _ | decide) (by first | exact Nat.zero_le _ | decide) dX11_fileMonth_85
        refine r_iload_n C 2 dX11_fileMonth_69 rfl rfl ?_
        refine r_aload_n C 0 dX11_fileMonth_70 rfl rfl ?_
        refine r_getI C fl_X11_295 rfl (hx.k 0 14 rfl) dX11_fileMonth_71 ?_
        refine V.ei (y := nI (un τ 46 46)) (hwx.2.2.2.2.2.1) ?_
        refine r_icmp_geN C (t := 81) (by omega) (by omega) dX11_fileMonth_74 (by decide) (fun c74 => ?_) (fun c74 => ?_)
        · skip
          refine r_iconst C (v := nI 0) dX11_fileMonth_81 (by decide) ?_
          refine V.eSt (st' := [.int (bI false), .long (sumL (fun i => coL τ i m q) 6), .long (sumL (fun i => taL τ i m q) 6), .int (nI m), .ref (gO α q 0)]) rfl ?_
          refine V.ei (y := bI (decide (m < un τ 46 46))) (congrArg bI (by exact (decide_eq_false (by omega)).symm)) ?_
          exact jn82
        · skip
          refine r_iconst C (v := nI 1) dX11_fileMonth_77 (by decide) ?_
          refine r_goto C (t := 82) dX11_fileMonth_78 (by decide) ?_
          refine V.eSt (st' := [.int (bI true), .long (sumL (fun i => coL τ i m q) 6), .long (sumL (fun i => taL τ i m q) 6), .int (nI m), .ref (gO α q 0)]) rfl ?_
          refine V.ei (y := bI (decide (m < un τ 46 46))) (congrArg bI (by exact (decide_eq_true (by omega)).symm)) ?_
          exact jn82
      · skip
        have hbp := (hws.2.2.1 r (by omega)).1
        have hbk := hws.bk (show r < 6 by omega)
        have hbf := hwb.2 r (by omega) (hfr r (by omega))
        refine r_aload_n C 0 dX11_fileMonth_15 rfl rfl ?_
        refine r_getR C (b := (α 2)) fl_X11_18 rfl (hx.k 0 14 rfl) (hx.r 0 1 2 rfl) dX11_fileMonth_16 ?_
        refine r_iload C 5 dX11_fileMonth_19 rfl ?_
        refine r_aaloadN C (b := (hO α r 0)) 1 (by decide) (hx.k 2 24 rfl) (hx.n 2 6 rfl) (by omega) (by omega) (hws.2.2.1 r (by omega)).2 dX11_fileMonth_21 ?_
        refine r_getR C (b := (bO α r 0)) fl_X11_94 rfl (hbp.k 0 11 rfl) (hbp.r 0 10 15 rfl) dX11_fileMonth_22 ?_
        refine r_astore C (lo' := [(8, .ref (bO α r 0)), (0, .ref (α 0)), (1, .int (nI q)), (2, .int (nI m)), (3, .long (sumL (fun i => taL τ i m q) r)), (5, .long (sumL (fun i => coL τ i m q) r)), (7, .int (nI r))]) dX11_fileMonth_25 (by decide) rfl ?_
        refine r_lload_n C 4 dX11_fileMonth_27 rfl rfl ?_
        refine r_aload C 0 dX11_fileMonth_28 rfl ?_
        refine r_getR C (b := (bO α r 9)) fl_X11_352 rfl (hbk.k 0 4 rfl) (hbk.r 0 3 9 rfl) dX11_fileMonth_30 ?_
        refine r_iload_n C 2 dX11_fileMonth_33 rfl rfl ?_
        refine r_aaloadN C (b := (bO α r (10 + q))) 5 (by decide) (hbk.k 9 28 rfl) (hbk.n 9 3 rfl) (by omega) (by omega) (hbk.ro 9 10 3 1 rfl q (by omega)) dX11_fileMonth_34 ?_
        refine r_iload_n C 3 dX11_fileMonth_35 rfl rfl ?_
        refine r_laloadN C (hbk.ko 10 21 3 rfl q (by omega)) (hbk.no 10 24 3 rfl q (by omega)) (by omega) (by omega) dX11_fileMonth_36 ?_
        refine V.el (y := taL τ r m q) (((hbf.1 m hm).1.1 q hq).2.2.1) ?_
        refine r_ladd C dX11_fileMonth_37 ?_
        refine r_lstore_n C (lo' := [(3, .long ((sumL (fun i => taL τ i m q) r) + (taL τ r m q))), (8, .ref (bO α r 0)), (0, .ref (α 0)), (1, .int (nI q)), (2, .int (nI m)), (5, .long (sumL (fun i => coL τ i m q) r)), (7, .int (nI r))]) dX11_fileMonth_38 rfl (by decide) rfl ?_
        refine r_lload C 5 dX11_fileMonth_39 rfl ?_
        refine r_aload C 1 dX11_fileMonth_41 rfl ?_
        refine r_getR C (b := (bO α r 5)) fl_X11_355 rfl (hbk.k 0 4 rfl) (hbk.r 0 2 5 rfl) dX11_fileMonth_43 ?_
        refine r_iload_n C 3 dX11_fileMonth_46 rfl rfl ?_
        refine r_aaloadN C (b := (bO α r (6 + q))) 5 (by decide) (hbk.k 5 28 rfl) (hbk.n 5 3 rfl) (by omega) (by omega) (hbk.ro 5 6 3 1 rfl q (by omega)) dX11_fileMonth_47 ?_
        refine r_iload_n C 4 dX11_fileMonth_48 rfl rfl ?_
        refine r_laloadN C (hbk.ko 6 21 3 rfl q (by omega)) (hbk.no 6 24 3 rfl q (by omega)) (by omega) (by omega) dX11_fileMonth_49 ?_
        refine V.el (y := coL τ r m q) (((hbf.1 m hm).1.1 q hq).2.1) ?_
        refine r_ladd C dX11_fileMonth_50 ?_
        refine r_lstore C (lo' := [(5, .long ((sumL (fun i => coL τ i m q) r) + (coL τ r m q))), (3, .long ((sumL (fun i => taL τ i m q) r) + (taL τ r m q))), (8, .ref (bO α r 0)), (0, .ref (α 0)), (1, .int (nI q)), (2, .int (nI m)), (7, .int (nI r))]) dX11_fileMonth_51 (by decide) rfl ?_
        refine r_iinc C (v := nI (r + 1)) (lo' := [(7, .int (nI (r + 1))), (5, .long ((sumL (fun i => coL τ i m q) r) + (coL τ r m q))), (3, .long ((sumL (fun i => taL τ i m q) r) + (taL τ r m q))), (8, .ref (bO α r 0)), (0, .ref (α 0)), (1, .int (nI q)), (2, .int (nI m))]) 6 dX11_fileMonth_53 rfl (nI_addI r 1) (by decide) rfl ?_
        refine r_goto C (t := 8) dX11_fileMonth_56 (by decide) ?_
        have jb3 : ((sumL (fun i => taL τ i m q) r) + (taL τ r m q)) = (sumL (fun i => taL τ i m q) (r + 1)) := by rfl
        refine V.eLo (lo' := [(7, .int (nI (r + 1))), (5, .long ((sumL (fun i => coL τ i m q) r) + (coL τ r m q))), (3, .long (sumL (fun i => taL τ i m q) (r + 1))), (8, .ref (bO α r 0)), (0, .ref (α 0)), (1, .int (nI q)), (2, .int (nI m))]) (congrArg (fun z_ => ([(7, .int (nI (r + 1))), (5, .long ((sumL (fun i => coL τ i m q) r) + (coL τ r m q))), (3, .long z_), (8, .ref (bO α r 0)), (0, .ref (α 0)), (1, .int (nI q)), (2, .int (nI m))] : List (Nat × Value))) jb3) ?_
        have jb5 : ((sumL (fun i => coL τ i m q) r) + (coL τ r m q)) = (sumL (fun i => coL τ i m q) (r + 1)) := by rfl
        refine V.eLo (lo' := [(7, .int (nI (r + 1))), (5, .long (sumL (fun i => coL τ i m q) (r + 1))), (3, .long (sumL (fun i => taL τ i m q) (r + 1))), (8, .ref (bO α r 0)), (0, .ref (α 0)), (1, .int (nI q)), (2, .int (nI m))]) (congrArg (fun z_ => ([(7, .int (nI (r + 1))), (5, .long z_), (3, .long (sumL (fun i => taL τ i m q) (r + 1))), (8, .ref (bO α r 0)), (0, .ref (α 0)), (1, .int (nI q)), (2, .int (nI m))] : List (Nat × Value))) jb5) ?_
        refine V.sub [4, 5, 6, 2, 1, 0] (lo' := [(0, .ref (α 0)), (1, .int (nI q)), (2, .int (nI m)), (3, .long (sumL (fun i => taL τ i m q) (r + 1))), (5, .long (sumL (fun i => coL τ i m q) (r + 1))), (7, .int (nI (r + 1)))]) rfl ?_
        exact ih8 (r + 1) (by omega) (by omega)
  refine V.sub [3, 4, 5, 2, 1, 0] (lo' := [(0, .ref (α 0)), (1, .int (nI q)), (2, .int (nI m)), (3, .long (lN 0)), (5, .long (lN 0)), (7, .int (nI 0))]) rfl ?_
  exact lp8 _ 0 (Nat.zero_le _) (Nat.lt_succ_self _)

