/-! close -/
theorem clS_wf {τ : Mu} (hw : WF τ) (hnp0 : un τ 51 51 ≤ 6 * un τ 46 46) (ho : un τ 46 46 < 24) {q : Nat} (hq : q ≤ 6) : WF (clS τ q) := by
  obtain ⟨h1, h2, h3, h4, h5⟩ := clS_ok hw hnp0 ho q hq
  rw [← mixU_e (τ := τ) (U := clS τ q) (fun k hk x => (clS_lo τ q k (by omega) x).1)]
  exact wf_mix hw (okN_cg (clS_lo τ q 46 (by omega) 46).1 hw.op) ⟨h1.1, by have := h1.2; omega⟩ h2 h3 h4
theorem clS_1 {τ : Mu} {q k : Nat} (h : k ≤ 46) : (clS τ q).1 k = τ.1 k := funext fun x => (clS_lo τ q k h x).1
theorem clS_2 {τ : Mu} {q k : Nat} (h : k ≤ 46) : (clS τ q).2 k = τ.2 k := funext fun x => (clS_lo τ q k h x).2
theorem clS_lv {τ : Mu} (hw : WF τ) (hnp0 : un τ 51 51 ≤ 6 * un τ 46 46) (ho : un τ 46 46 < 24) {q : Nat} (hq : q ≤ 6) {k : Nat} (h : LV τ k) : LV (clS τ q) k := by
  obtain ⟨h1, h2, h3, h4, h5⟩ := clS_ok hw hnp0 ho q hq
  unfold LV at h ⊢
  rw [un_e (clS_1 (show 9 ≤ 46 by decide)), un_e (clS_1 (show 44 ≤ 46 by decide)), un_e (clS_1 (show 17 ≤ 46 by decide))]
  omega
theorem clS_vp {τ : Mu} (hw : WF τ) {q r : Nat} : VP r τ (clS τ q) := VP.of hw (fun k hk => clS_1 (by omega)) (fun m _ => by rw [clS_2 (by decide)])
theorem poU_cl {τ : Mu} (hw : WF τ) (ho : un τ 46 46 < 24) {q : Nat} : poU (clS τ q) q (un (clS τ q) 46 46) (pdL (clS τ q) q (sumL (pyL (clS τ q) q) (un (clS τ q) 46 46 + 1)) (un (clS τ q) 51 51)) = clS τ (q + 1) := by
  have e46 : un (clS τ q) 46 46 = un τ 46 46 := congrFun (un_e (clS_1 (show 46 ≤ 46 by decide))) 46
  have ed : pdL (clS τ q) q (sumL (pyL (clS τ q) q) (un (clS τ q) 46 46 + 1)) (un (clS τ q) 51 51) = dueP τ (clS τ q) q := by
    unfold dueP
    rw [e46, sumL_cg (fun i hi => (clS_vp hw).py (show i < 24 by omega))]
  rw [ed, e46]
  rfl
theorem flU_1 {b : Mu} {D P : Nat → Nat → Nat → Int64} {n k : Nat} (h : k ≠ 54) : (flU b D P n).1 k = b.1 k := funext fun x => flU_I b D P n k x h
theorem flU_2 {b : Mu} {D P : Nat → Nat → Nat → Int64} {n k : Nat} (h : k < 52) : (flU b D P n).2 k = b.2 k := funext fun x => flU_L b D P n k x (.inl h)
theorem flU_wf {b : Mu} (hw : WF b) {D P : Nat → Nat → Nat → Int64} {n : Nat} : WF (flU b D P n) := by
  rw [← mixU_e (τ := b) (U := flU b D P n) (fun k hk x => congrFun (flU_1 (by omega)) x)]
  have e51 : un (flU b D P n) 51 51 = un b 51 51 := congrFun (un_e (flU_1 (by decide))) 51
  exact wf_mix hw (okN_cg (congrFun (flU_1 (by decide)) 46) hw.op) (okN_cg (congrFun (flU_1 (by decide)) 51) hw.np) (fun k hk => okN_cg (congrFun (flU_1 (by decide)) k) (hw.pw k (by omega))) (fun k hk => okN_cg (congrFun (flU_1 (by decide)) k) (hw.pm k (by omega))) (fun k hk => okN_cg (congrFun (flU_1 (by decide)) k) (hw.pb k (by omega)))
theorem fiU_fl {τ b : Mu} (hv : ∀ r, r < 6 → VP r τ b) (hw : WF b) {p m : Nat} (hp : p < 3) (hm : m < 24) (ho : m ≤ un b 46 46) : fiU (flU b (tx3 τ) (co3 τ) (24 * p + m)) (24 * p + m) m (sumL (fun i => taL (flU b (tx3 τ) (co3 τ) (24 * p + m)) i m p) 6) (sumL (fun i => coL (flU b (tx3 τ) (co3 τ) (24 * p + m)) i m p) 6) = flU b (tx3 τ) (co3 τ) (24 * p + m + 1) := by
  have em : (24 * p + m) % 24 = m := by omega
  have ep : (24 * p + m) / 24 = p := by omega
  have v2 : ∀ r, VP r b (flU b (tx3 τ) (co3 τ) (24 * p + m)) := fun r => VP.of hw (fun k hk => flU_1 (by omega)) (fun m _ => by rw [flU_2 (by decide)])
  have eT : sumL (fun i => taL (flU b (tx3 τ) (co3 τ) (24 * p + m)) i m p) 6 = flS (tx3 τ) (24 * p + m) := by
    unfold flS tx3
    rw [em, ep]
    exact sumL_cg fun i hi => ((v2 i).ta hm hp).trans ((hv i hi).ta hm hp)
  have eP : sumL (fun i => coL (flU b (tx3 τ) (co3 τ) (24 * p + m)) i m p) 6 = flS (co3 τ) (24 * p + m) := by
    unfold flS co3
    rw [em, ep]
    exact sumL_cg fun i hi => ((v2 i).co hm hp).trans ((hv i hi).co hm hp)
  rw [eT, eP, ← flU_do b (tx3 τ) (co3 τ) (n := 24 * p + m) (by rw [em]; exact ho)]
  unfold fiU
  rw [flU_54, flU_52, flU_53, em, show un (flU b (tx3 τ) (co3 τ) (24 * p + m)) 46 46 = un b 46 46 from congrFun (un_e (flU_1 (by decide))) 46]
theorem fl_to {b : Mu} {D P : Nat → Nat → Nat → Int64} {p : Nat} : ∀ j, un b 46 46 + 1 + j ≤ 24 → flU b D P (24 * p + (un b 46 46 + 1 + j)) = flU b D P (24 * p + (un b 46 46 + 1))
  | 0, _ => rfl
  | j + 1, hj => by
    rw [← fl_to j (by omega)]
    exact flU_skip b D P (n := 24 * p + (un b 46 46 + 1 + j)) (by omega)
theorem fl_nx {b : Mu} {D P : Nat → Nat → Nat → Int64} {p : Nat} (h : un b 46 46 < 24) : flU b D P (24 * (p + 1)) = flU b D P (24 * p + (un b 46 46 + 1)) := by
  rw [← fl_to (24 - (un b 46 46 + 1)) (by omega)]
  congr 1
  omega
theorem clU_1 {τ : Mu} {k : Nat} (h : k ≠ 46 ∧ k ≠ 54) : (clU τ).1 k = (clS τ 6).1 k := (show (clU τ).1 k = (flU (clS τ 6) (tx3 τ) (co3 τ) 72).1 k from sI_r h.1).trans (flU_1 h.2)
theorem XO.xt {τ U W : Mu} {α β : Nat → Nat} {M : Mem} (h : XT τ α M U β) (hW : ∀ k, LV W k → LV U k) : XO τ α M W β := fun a h0 hn k hk e => by
  rcases h.2 k (hW k hk) with q | q
  · exact hn k q (e.trans (h.1 k q))
  · exact h0 (by rw [e]; exact q)
def X0A (α : Nat → Nat) (a : Nat) : Prop := a = α 0
theorem op_w {τ : Mu} {G : gW} {α : Nat → Nat} {M : Mem} {n : Nat} (hn : n < 2 ^ 31) (hw : WF τ) (w : WD τ G α M) : WD (sI τ 46 46 (nI n)) G α (wI M (α 0) 11 (nI n)) := by
  obtain ⟨ws, wt, wb⟩ := w
  have h9 := hw.nc.2
  have h44 := hw.ng.2
  have hU : ∀ k, k ≠ 46 → (sI τ 46 46 (nI n)).1 k = τ.1 k := fun k hk => sI_r hk
  have u46 : un (sI τ 46 46 (nI n)) 46 46 = n := by unfold un; rw [sI_s]; exact nI_clamp hn
  have f : frm (X0A α) M (wI M (α 0) 11 (nI n)) := (frm.rf _ M).wi _ _ rfl
  have qa : QA τ α (X0A α) := fun a h => ⟨0, lv_s (by decide), .inl ⟨by decide, by rintro (z | z | z | ⟨q, o, h1, h2, h3, z⟩) <;> omega, fun r hr => by omega⟩, h⟩
  have nz : ∀ k, LV τ k → k ≠ 0 → ¬ X0A α (α k) := fun k hk h z => h (ws.1 _ _ hk (lv_s (by decide)) z)
  obtain ⟨w1, w2, w3, w4, w5⟩ := wt
  refine ⟨(qa.ws f ws).u (hU 0 (by decide)) (hU 9 (by decide)) (hU 14 (by decide)) (hU 15 (by decide)) (hU 17 (by decide)) (hU 38 (by decide)) (hU 40 (by decide)) (hU 44 (by decide)) (hU 51 (by decide)), ⟨fun c hc => ?_, fun r hr => ?_, fun x hx => ?_, ?_, ?_⟩, WB.vp (U := sI τ 46 46 (nI n)) (fun r hr => VP.of hw (fun k hk => hU k (by omega)) (fun m _ => rfl)) (hU 9 (by decide)) (qa.wb hw ws.1 f wb)⟩
  · rw [congrFun (un_e (hU 9 (by decide))) 9] at hc
    exact ((w1 c hc).cg (fun k _ => congrFun (f.i (nz _ (lv_c hc (show 0 < 10 by decide)) (by omega))) k) (fun o _ ho => f.i (nz _ (lv_c hc (show o < 10 by omega)) (by omega)))).u (fun k hk => hU k (by omega))
  · exact ((w2 r hr).cg (fun o ho => f.i (nz _ (lv_h hr (show o < 57 by omega)) (by omega))) (fun o ho => rfl)).u (hU 30 (by decide)) (hU 36 (by decide)) (hU 37 (by decide)) (hU 47 (by decide)) (hU 50 (by decide)) (hU 51 (by decide)) rfl rfl
  · exact ((w3 x hx).cg (fun o ho => f.i (nz _ (lv_g hx ho) (by omega))) (fun o ho => rfl)).u (hU 31 (by decide)) (hU 32 (by decide)) (hU 33 (by decide)) (hU 34 (by decide)) (hU 35 (by decide)) (hU 54 (by decide)) rfl rfl
  · obtain ⟨b1, b2, b3, b4, b5, b6, b7⟩ := w4
    refine ⟨(wI_k (by decide)).trans (b1.trans (by rw [un_e (hU 13 (by decide))])), (wI_k (by decide)).trans (b2.trans (by rw [un_e (hU 17 (by decide))])), (wI_k (by decide)).trans (b3.trans (by rw [un_e (hU 18 (by decide))])), (wI_k (by decide)).trans (b4.trans (by rw [un_e (hU 19 (by decide))])), (wI_k (by decide)).trans (b5.trans (by rw [un_e (hU 20 (by decide))])), by rw [u46]; exact wI_i, (b7.cgs (fun o ho => f.i (nz (4 + o) (lv_s (by omega)) (by omega)))).u (hU 22 (by decide)) (hU 23 (by decide)) (hU 24 (by decide)) (hU 25 (by decide)) (hU 26 (by decide)) (hU 27 (by decide))⟩
  · exact (w5.cg (M1 := wI M (α 0) 11 (nI n)) (fun k hk => congrFun (f.i (nz _ (lv_l hk) (by omega))) 1) (fun g hg => f.i (nz _ (lv_a hg (show 0 < 2 by decide)) (by omega))) (fun k hk => ⟨f.i (nz _ (lv_y hk) (by omega)), rfl⟩)).u (hU 15 (by decide)) (hU 17 (by decide)) (fun k a b => hU k (by omega)) (hU 47 (by decide)) (hU 48 (by decide)) (hU 50 (by decide)) (hU 51 (by decide)) rfl
theorem CF.fr1 {τ : Mu} {α : Nat → Nat} {A : Nat → Prop} {M M1 : Mem} (f : frm A M M1) (hA : ∀ a, A a → ∃ k, LV τ k ∧ a = α k) : CF τ α M M1 := fun a _ _ h3 => by
  have n : ¬ A a := fun h => by obtain ⟨k, h1, h2⟩ := hA a h; exact h3 k h1 h2
  exact ⟨congrFun f.1 a, congrFun f.2.1 a, f.i n, f.l n, congrFun f.2.2.1 a⟩
def FiX (α : Nat → Nat) (a : Nat) : Prop := ∃ q, q < 3 ∧ FiA α q a
theorem FiX.lv {τ : Mu} {α : Nat → Nat} {a : Nat} (h : FiX α a) : ∃ k, LV τ k ∧ a = α k := by
  obtain ⟨q, hq, h⟩ := h
  obtain ⟨k, h1, _, h2⟩ := FiA.q (τ := τ) hq a h
  exact ⟨k, h1, h2⟩
theorem FiX.bk {τ : Mu} {α : Nat → Nat} (hi : INJ τ α) {r o : Nat} (hr : r < 6) (ho : o < 42) : ¬ FiX α (bO α r o) := by
  rintro ⟨q, hq, h⟩
  rcases h with h | h | h
  · have := hi _ _ (lv_b hr ho) (lv_g hq (show 8 < 35 by decide)) h; omega
  · have := hi _ _ (lv_b hr ho) (lv_g hq (show 9 < 35 by decide)) h; omega
  · have := hi _ _ (lv_b hr ho) (lv_g hq (show 10 < 35 by decide)) h; omega

set_option maxHeartbeats 1000000 in
set_option maxRecDepth 100000 in
theorem c_X11_close (l : Launch) (hfl : l.flags = flags0) (G : gW) (M : Mem) (τ : Mu) (hw : WF τ) (α : Nat → Nat) (hws : WS τ G α M) (hwt : WT τ α M) (hwb : WB τ α M) (had : ∀ p, p < 6 → AD τ p) (hnp0 : un τ 51 51 ≤ 6 * un τ 46 46) : CX l yX11_close cX11_close 4 (some .int) 8 13 1830 252 G M [.ref (α 0)] (fun v M' => PC τ G α M (cd1 (decide (un τ 46 46 ≠ 24))) (clU τ) (some (.int (nI (un (clS τ 6) 51 51 - un τ 51 51)))) v M') (fun E M' => XP M (cd1 (decide (un τ 46 46 ≠ 24))) ["java/lang/IllegalStateException"] E M') := by
  refine CX.of hfl rfl (Nat.le_of_ble_eq_true rfl) ?_
  intro pp ee ss mm ar bw mt cd C hgX hr hno
  have hx := hws.2.1
  have hwx := hwt.2.2.2.1
  have h9 := hw.nc.2
  have h13 := hw.sh.2
  have h17 := hw.nl.2
  have h26 := hw.ne.2
  have h44 := hw.ng.2
  have h46 := hw.op.2
  have h51 := hw.np.2
  refine V.eLo (lo' := [(0, .ref (α 0))]) rfl ?_
  refine r_aload_n C 0 dX11_close_0 rfl rfl ?_
  refine r_getI C fl_X11_295 rfl (hx.k 0 14 rfl) dX11_close_1 ?_
  refine V.ei (y := nI (un τ 46 46)) (hwx.2.2.2.2.2.1) ?_
  refine r_callS C hgX ml_X11_141 st_X11_isMonth (c_X11_isMonth l hfl G M (nI (un τ 46 46))) rfl (Nat.le_of_ble_eq_true rfl) ⟨Nat.le_of_ble_eq_true rfl, Nat.le_of_ble_eq_true rfl⟩ ⟨Nat.le_of_ble_eq_true rfl, Nat.le_of_ble_eq_true rfl⟩ dX11_close_4 rfl ?_
  rintro _ _ ⟨rfl, rfl⟩
  refine V.eSt (st' := [.int (bI (rng (nI (un τ 46 46)) 24))]) rfl ?_
  refine V.ei (y := bI (decide (un τ 46 46 ≠ 24))) (congrArg bI (op_r (by omega))) ?_
  refine r_xS C hgX hno ml_X11_71 st_X11_needAllowed (c_X11_needAllowed l hfl G M (decide (un τ 46 46 ≠ 24))) rfl (Nat.le_of_ble_eq_true rfl) ⟨Nat.le_of_ble_eq_true rfl, Nat.le_of_ble_eq_true rfl⟩ ⟨Nat.le_of_ble_eq_true rfl, Nat.le_of_ble_eq_true rfl⟩ dX11_close_7 rfl (fun E_ M_ h_ => x_1 h_) ⟨Nat.le_of_ble_eq_true rfl, Nat.le_of_ble_eq_true rfl⟩ ?_
  rintro _ _ ⟨rfl, rfl, hq1⟩
  have hq := hq1
  have ho : un τ 46 46 < 24 := by have := of_decide_eq_true hq; omega
  refine r_aload_n C 0 dX11_close_10 rfl rfl ?_
  refine r_getR C (b := (α 28)) fl_X11_38 rfl (hx.k 0 14 rfl) (hx.r 0 5 28 rfl) dX11_close_11 ?_
  refine r_callV C hgX (ci := 2) ml_X11_67 im_Jx4a65c_size_8abf5 se_Jx4a65c_size_8abf5 rfl rfl (hx.k 28 3 rfl) (c_Jx4a65c_size_8abf5 l hfl G M (α 28) (un τ 51 51) hws.2.2.2.2.2.2.2.2.2.2.1.1 hws.2.2.2.2.2.2.2.2.2.2.1.2.1) rfl (Nat.le_of_ble_eq_true rfl) ⟨Nat.le_of_ble_eq_true rfl, Nat.le_of_ble_eq_true rfl⟩ ⟨Nat.le_of_ble_eq_true rfl, Nat.le_of_ble_eq_true rfl⟩ dX11_close_14 rfl ?_
  rintro _ _ ⟨rfl, rfl⟩
  refine V.eSt (st' := [.int (nI (un τ 51 51))]) rfl ?_
  refine r_istore_n C (lo' := [(1, .int (nI (un τ 51 51))), (0, .ref (α 0))]) dX11_close_17 rfl (by decide) rfl ?_
  refine r_iconst C (v := nI 0) dX11_close_18 (by decide) ?_
  refine r_istore_n C (lo' := [(2, .int (nI 0)), (1, .int (nI (un τ 51 51))), (0, .ref (α 0))]) dX11_close_19 rfl (by decide) rfl ?_
  have lp20 : ∀ (k20 : Nat) (M1 : Mem) (q : Nat) (be : Nat → Nat) (cl : Nat) (sl : Nat) (hcl : cl ≤ 1 + 2 * q) (hsl : sl ≤ 6 + 304 * q) (hq6 : q ≤ 6) (hWDl : WD (clS τ q) G be M1) (hXTl : XT τ α M (clS τ q) be) (hCFl : CF τ α M M1) (hKKl : KK M M1) (hfrl : ∀ r, r < q → mI M1 (bO α r 0) 0 = 0), 7 - q < k20 → V pp l ee ({ frames := 8, cells := 13, slots := 1830, locals := 252 } : Room) ss mm ar bw mt cd G (vx_MQ bw (Ke G (fun v M' => PC τ G α M (cd1 (decide (un τ 46 46 ≠ 24))) (clU τ) (some (.int (nI (un (clS τ 6) 51 51 - un τ 51 51)))) v M')) (Kx G (fun E M' => XP M (cd1 (decide (un τ 46 46 ≠ 24))) ["java/lang/IllegalStateException"] E M')) ar ss 13 1830 (gA G)) 4 M1 cl sl 20 [(0, .ref (α 0)), (1, .int (nI (un τ 51 51))), (2, .int (nI q))] [] := by
    intro k20
    induction k20 with
    | zero => intro M1 q be cl sl hcl hsl hq6 hWDl hXTl hCFl hKKl hfrl hz20; exact absurd hz20 (Nat.not_lt_zero _)
    | succ k20 ih20 =>
      intro M1 q be cl sl hcl hsl hq6 hWDl hXTl hCFl hKKl hfrl hz20
      have hb0 : be 0 = α 0 := hXTl.1 0 (lv_s (by decide))
      obtain ⟨hwsl, hwtl, hwbl⟩ := hWDl
      have hx := hwsl.2.1
      have hwq := clS_wf hw hnp0 ho hq6
      obtain ⟨hk51, _, _, _, hkge⟩ := clS_ok hw hnp0 ho q hq6
      have hk51 := hk51.2
      have hadq : ∀ p, p < 6 → AD (clS τ q) p := fun p hp k hk => by rw [clS_2 (by decide)]; exact had p hp k hk
      refine V.eLo (lo' := [(0, .ref (be 0)), (1, .int (nI (un τ 51 51))), (2, .int (nI q))]) (by rw [hb0]) ?_
      refine r_iload_n C 2 dX11_close_20 rfl rfl ?_
      refine r_bipush C (v := nI 6) dX11_close_21 (by decide) ?_
      refine r_icmp_geN C (t := 48) (by omega) (by omega) dX11_close_23 (by decide) (fun c23 => ?_) (fun c23 => ?_)
      · skip
        have eq6 : q = 6 := by omega
        subst eq6
        have hw6 := hwq
        have e46 : un (clS τ 6) 46 46 = un τ 46 46 := congrFun (un_e (clS_1 (show 46 ≤ 46 by decide))) 46
        have hfz : ∀ r, r < 6 → mI M1 (bO be r 0) 0 = 0 := fun r hr => by rw [show bO be r 0 = bO α r 0 from hXTl.1 _ (lv_b hr (by decide))]; exact hfrl r hr
        refine r_iconst C (v := nI 0) dX11_close_48 (by decide) ?_
        refine r_istore_n C (lo' := [(2, .int (nI 0)), (0, .ref (be 0)), (1, .int (nI (un τ 51 51)))]) dX11_close_49 rfl (by decide) rfl ?_
        have lp50 : ∀ (k50 : Nat) (M2 : Mem) (p : Nat) (hp3 : p ≤ 3) (hWD2 : WD (flU (clS τ 6) (tx3 τ) (co3 τ) (24 * p)) G be M2) (hF2 : frm (FiX be) M1 M2), 4 - p < k50 → V pp l ee ({ frames := 8, cells := 13, slots := 1830, locals := 252 } : Room) ss mm ar bw mt cd G (vx_MQ bw (Ke G (fun v M' => PC τ G α M (cd1 (decide (un τ 46 46 ≠ 24))) (clU τ) (some (.int (nI (un (clS τ 6) 51 51 - un τ 51 51)))) v M')) (Kx G (fun E M' => XP M (cd1 (decide (un τ 46 46 ≠ 24))) ["java/lang/IllegalStateException"] E M')) ar ss 13 1830 (gA G)) 4 M2 cl sl 50 [(0, .ref (be 0)), (1, .int (nI (un τ 51 51))), (2, .int (nI p))] [] := by
          intro k50
          induction k50 with
          | zero => intro M2 p hp3 hWD2 hF2 hz50; exact absurd hz50 (Nat.not_lt_zero _)
          | succ k50 ih50 =>
            intro M2 p hp3 hWD2 hF2 hz50
            have hx := hWD2.1.2.1
            have h11 : mI M2 (be 0) 11 = nI (un τ 46 46) := by rw [hWD2.2.1.2.2.2.1.2.2.2.2.2.1]; exact congrArg nI ((congrFun (un_e (flU_1 (by decide))) 46).trans (congrFun (un_e (clS_1 (show 46 ≤ 46 by decide))) 46))
            refine r_iload_n C 2 dX11_close_50 rfl rfl ?_
            refine r_iconst C (v := nI 3) dX11_close_51 (by decide) ?_
            refine r_icmp_geN C (t := 83) (by omega) (by omega) dX11_close_52 (by decide) (fun c52 => ?_) (fun c52 => ?_)
            · skip
              have ep3 : p = 3 := by omega
              subst ep3
              refine r_aload_n C 0 dX11_close_83 rfl rfl ?_
              refine r_dup C dX11_close_84 rfl ?_
              refine r_getI C fl_X11_295 rfl (hx.k 0 14 rfl) dX11_close_85 ?_
              refine V.ei (y := nI (un τ 46 46)) (h11) ?_
              refine r_iconst C (v := nI 1) dX11_close_88 (by decide) ?_
              refine r_iaddN C dX11_close_89 ?_
              refine r_putI C fl_X11_295 (hx.k 0 14 rfl) dX11_close_90 ?_
              have hWDF : WD (clU τ) G be (wI M2 (be 0) 11 (nI (un τ 46 46 + 1))) := op_w (by omega) (flU_wf hw6) hWD2
              have e51F : un (clU τ) 51 51 = un (clS τ 6) 51 51 := (congrFun (un_e (show (clU τ).1 51 = (flU (clS τ 6) (tx3 τ) (co3 τ) 72).1 51 from sI_r (by decide))) 51).trans (congrFun (un_e (flU_1 (by decide))) 51)
              refine r_aload_n C 0 dX11_close_93 rfl rfl ?_
              refine r_getR C (b := (be 28)) fl_X11_38 rfl (hx.k 0 14 rfl) (hx.r 0 5 28 rfl) dX11_close_94 ?_
              refine r_callV C hgX (ci := 2) ml_X11_67 im_Jx4a65c_size_8abf5 se_Jx4a65c_size_8abf5 rfl rfl (show mK (wI M2 (be 0) 11 (nI (un τ 46 46 + 1))) (be 28) = 2 + 1 from (hx.k 28 3 rfl)) (c_Jx4a65c_size_8abf5 l hfl G (wI M2 (be 0) 11 (nI (un τ 46 46 + 1))) (be 28) (un (clS τ 6) 51 51) hWDF.1.2.2.2.2.2.2.2.2.2.2.1.1 (hWDF.1.2.2.2.2.2.2.2.2.2.2.1.2.1.trans (congrArg nI e51F))) rfl (Nat.le_of_ble_eq_true rfl) ⟨Nat.le_of_ble_eq_true rfl, Nat.le_of_ble_eq_true rfl⟩ ⟨by dsimp only; omega, by dsimp only; omega⟩ dX11_close_97 rfl ?_
              rintro _ _ ⟨rfl, rfl⟩
              refine V.eSt (st' := [.int (nI (un (clS τ 6) 51 51))]) rfl ?_
              refine r_iload_n C 1 dX11_close_100 rfl rfl ?_
              refine r_isubN C (by omega) dX11_close_101 ?_
              refine V.xret ?_
              exact r_iret C hr (⟨k_1 hq, rfl, be, hWDF, hb0, (hCFl.tr hXTl (CF.fr1 hF2 (fun a h => FiX.lv h))).tr hXTl (CF.fr1 ((frm.rf (X0A be) M2).wi 11 _ rfl) (fun a h => ⟨0, lv_s (by decide), h⟩)), XO.xt hXTl (fun k_ hk_ => LV.u (clU_1 (by decide)) (clU_1 (by decide)) (clU_1 (by decide)) (clU_1 (by decide)) hk_)⟩) (by omega) (by omega) dX11_close_102
            · skip
              refine r_iconst C (v := nI 0) dX11_close_55 (by decide) ?_
              refine r_istore_n C (lo' := [(3, .int (nI 0)), (0, .ref (be 0)), (1, .int (nI (un τ 51 51))), (2, .int (nI p))]) dX11_close_56 rfl (by decide) rfl ?_
              have lp57 : ∀ (k57 : Nat) (M3 : Mem) (m : Nat) (hm1 : m ≤ un τ 46 46 + 1) (hWD3 : WD (flU (clS τ 6) (tx3 τ) (co3 τ) (24 * p + m)) G be M3) (hF3 : frm (FiX be) M1 M3), un τ 46 46 + 2 - m < k57 → V pp l ee ({ frames := 8, cells := 13, slots := 1830, locals := 252 } : Room) ss mm ar bw mt cd G (vx_MQ bw (Ke G (fun v M' => PC τ G α M (cd1 (decide (un τ 46 46 ≠ 24))) (clU τ) (some (.int (nI (un (clS τ 6) 51 51 - un τ 51 51)))) v M')) (Kx G (fun E M' => XP M (cd1 (decide (un τ 46 46 ≠ 24))) ["java/lang/IllegalStateException"] E M')) ar ss 13 1830 (gA G)) 4 M3 cl sl 57 [(0, .ref (be 0)), (1, .int (nI (un τ 51 51))), (2, .int (nI p)), (3, .int (nI m))] [] := by
                intro k57
                induction k57 with
                | zero => intro M3 m hm1 hWD3 hF3 hz57; exact absurd hz57 (Nat.not_lt_zero _)
                | succ k57 ih57 =>
                  intro M3 m hm1 hWD3 hF3 hz57
                  have hx := hWD3.1.2.1
                  have h11 : mI M3 (be 0) 11 = nI (un τ 46 46) := by rw [hWD3.2.1.2.2.2.1.2.2.2.2.2.1]; exact congrArg nI ((congrFun (un_e (flU_1 (by decide))) 46).trans (congrFun (un_e (clS_1 (show 46 ≤ 46 by decide))) 46))
                  refine r_iload_n C 3 dX11_close_57 rfl rfl ?_
                  refine r_aload_n C 0 dX11_close_58 rfl rfl ?_
                  refine r_getI C fl_X11_295 rfl (hx.k 0 14 rfl) dX11_close_59 ?_
                  refine V.ei (y := nI (un τ 46 46)) (h11) ?_
                  refine r_icmp_gtN C (t := 77) (by omega) (by omega) dX11_close_62 (by decide) (fun c62 => ?_) (fun c62 => ?_)
                  · skip
                    refine r_iinc C (v := nI (p + 1)) (lo' := [(2, .int (nI (p + 1))), (0, .ref (be 0)), (1, .int (nI (un τ 51 51))), (3, .int (nI m))]) 2 dX11_close_77 rfl (nI_addI p 1) (by decide) rfl ?_
                    refine r_goto C (t := 50) dX11_close_80 (by decide) ?_
                    refine V.sub [1, 2, 0] (lo' := [(0, .ref (be 0)), (1, .int (nI (un τ 51 51))), (2, .int (nI (p + 1)))]) rfl ?_
                    exact ih50 M3 (p + 1) (by omega) (by rw [fl_nx (by rw [e46]; exact ho), e46, show un τ 46 46 + 1 = m by omega]; exact hWD3) hF3 (by omega)
                  · skip
                    refine r_aload_n C 0 dX11_close_65 rfl rfl ?_
                    refine r_iload_n C 2 dX11_close_66 rfl rfl ?_
                    refine r_iload_n C 3 dX11_close_67 rfl rfl ?_
                    refine r_callV C hgX (ci := 13) ml_X11_309 im_X11_fileMonth se_X11_fileMonth rfl rfl (hx.k 0 14 rfl) (c_X11_fileMonth l hfl G M3 (flU (clS τ 6) (tx3 τ) (co3 τ) (24 * p + m)) (flU_wf hw6) be hWD3.1 hWD3.2.1 hWD3.2.2 (fun p hp k hk => by rw [flU_2 (by decide), clS_2 (by decide)]; exact had p hp k hk) p m (by omega) (by omega) (by rw [show un (flU (clS τ 6) (tx3 τ) (co3 τ) (24 * p + m)) 46 46 = un τ 46 46 from (congrFun (un_e (flU_1 (by decide))) 46).trans (congrFun (un_e (clS_1 (show 46 ≤ 46 by decide))) 46)]; exact ho) (fun r hr => by rw [hF3.i (FiX.bk hwsl.1 hr (by decide))]; exact hfz r hr)) rfl (Nat.le_of_ble_eq_true rfl) ⟨Nat.le_of_ble_eq_true rfl, Nat.le_of_ble_eq_true rfl⟩ ⟨by dsimp only; omega, by dsimp only; omega⟩ dX11_close_68 rfl ?_
                    rintro _ My2 ⟨rfl, hWD2, hfi2⟩
                    have hWDm := hWD2
                    rw [fiU_fl (fun r _ => clS_vp hw) hw6 (show p < 3 by omega) (show m < 24 by omega) (by rw [e46]; omega)] at hWDm
                    have hFm : frm (FiX be) M1 My2 := hF3.tr (hfi2.mono fun a h => ⟨p, by omega, h⟩)
                    refine r_iinc C (v := nI (m + 1)) (lo' := [(3, .int (nI (m + 1))), (0, .ref (be 0)), (1, .int (nI (un τ 51 51))), (2, .int (nI p))]) 3 dX11_close_71 rfl (nI_addI m 1) (by decide) rfl ?_
                    refine r_goto C (t := 57) dX11_close_74 (by decide) ?_
                    refine V.sub [1, 2, 3, 0] (lo' := [(0, .ref (be 0)), (1, .int (nI (un τ 51 51))), (2, .int (nI p)), (3, .int (nI (m + 1)))]) rfl ?_
                    exact ih57 My2 (m + 1) (by omega) hWDm hFm (by omega)
              refine V.sub [1, 2, 3, 0] (lo' := [(0, .ref (be 0)), (1, .int (nI (un τ 51 51))), (2, .int (nI p)), (3, .int (nI 0))]) rfl ?_
              exact lp57 _ M2 0 (Nat.zero_le _) hWD2 hF2 (Nat.lt_succ_self _)
        refine V.sub [1, 2, 0] (lo' := [(0, .ref (be 0)), (1, .int (nI (un τ 51 51))), (2, .int (nI 0))]) rfl ?_
        exact lp50 _ M1 0 (Nat.zero_le _) (by rw [show flU (clS τ 6) (tx3 τ) (co3 τ) (24 * 0) = clS τ 6 from flU_0 _ _ _]; exact ⟨hwsl, hwtl, hwbl⟩) (frm.rf _ _) (Nat.lt_succ_self _)
      · skip
        have hqq : q < 6 := by omega
        refine r_aload_n C 0 dX11_close_26 rfl rfl ?_
        refine r_iload_n C 2 dX11_close_27 rfl rfl ?_
        refine r_callV C hgX (ci := 13) ml_X11_144 im_X11_bookOf se_X11_bookOf rfl rfl (hx.k 0 14 rfl) (c_X11_bookOf l hfl G M1 (clS τ q) hwq be hwsl hwtl hwbl hadq q hqq) rfl (Nat.le_of_ble_eq_true rfl) ⟨Nat.le_of_ble_eq_true rfl, Nat.le_of_ble_eq_true rfl⟩ ⟨by dsimp only; omega, by dsimp only; omega⟩ dX11_close_28 rfl ?_
        rintro _ My3 ⟨rfl, hbx3, hws3, hwt3, hwb3, hbz3⟩
        refine V.eSt (st' := [.ref (bO be q 0)]) rfl ?_
        have hbfq := hwb3.2 q hqq hbz3
        have hwsP := hws3
        have hwsK := hws3
        have hwtK := hwt3
        have hwbK := hwb3
        have hx := hwsP.2.1
        refine r_pop C dX11_close_31 rfl ?_
        refine r_aload_n C 0 dX11_close_32 rfl rfl ?_
        refine r_aload_n C 0 dX11_close_33 rfl rfl ?_
        refine r_getR C (b := (be 2)) fl_X11_18 rfl (hx.k 0 14 rfl) (hx.r 0 1 2 rfl) dX11_close_34 ?_
        refine r_iload_n C 2 dX11_close_37 rfl rfl ?_
        refine r_aaloadN C (b := (hO be q 0)) 1 (by decide) (hx.k 2 24 rfl) (hx.n 2 6 rfl) (by omega) (by omega) (hwsP.2.2.1 q (by omega)).2 dX11_close_38 ?_
        refine r_callV C hgX (ci := 13) ml_X11_305 im_X11_payOut se_X11_payOut rfl rfl (hx.k 0 14 rfl) (c_X11_payOut l hfl G My3 (clS τ q) hwq be hwsK hwtK hwbK hadq q hqq (fun m hm => (hbfq.1 m hm).2.2.2.2) (by rw [un_e (clS_1 (show 46 ≤ 46 by decide))]; exact ho) (by omega)) rfl (Nat.le_of_ble_eq_true rfl) ⟨Nat.le_of_ble_eq_true rfl, Nat.le_of_ble_eq_true rfl⟩ ⟨by dsimp only; omega, by dsimp only; omega⟩ dX11_close_39 rfl ?_
        rintro _ My4 ⟨rfl, be4, ⟨hWD4, hXT4⟩, hfr4, hCF4, hKK4⟩
        have hKb : KK M My3 := hKKl.tr (KK.fr hbx3.1)
        have hWDn := hWD4
        rw [poU_cl hw ho] at hWDn
        have hXTn := hXT4
        rw [poU_cl hw ho] at hXTn
        have hfrn : ∀ r, r < q + 1 → mI My4 (bO α r 0) 0 = 0 := fun r hr => by
                  have e : bO be r 0 = bO α r 0 := hXTl.1 _ (lv_b (show r < 6 by omega) (by decide))
                  rw [← e, hfr4 r (by omega)]
                  by_cases z : r = q
                  · subst z; exact hbz3
                  · rw [show mI My3 (bO be r 0) = mI M1 (bO be r 0) from hbx3.i hwsl.1 hqq (lv_b (by omega) (by decide)) (nbc_s (by omega) (by omega) (by omega) (by omega)), e]
                    exact hfrl r (by omega)
        refine r_iinc C (v := nI (q + 1)) (lo' := [(2, .int (nI (q + 1))), (0, .ref (be 0)), (1, .int (nI (un τ 51 51)))]) 2 dX11_close_42 rfl (nI_addI q 1) (by decide) rfl ?_
        refine V.eLo (lo' := [(2, .int (nI (q + 1))), (0, .ref (α 0)), (1, .int (nI (un τ 51 51)))]) (by rw [hb0]) ?_
        refine r_goto C (t := 20) dX11_close_45 (by decide) ?_
        refine V.sub [1, 2, 0] (lo' := [(0, .ref (α 0)), (1, .int (nI (un τ 51 51))), (2, .int (nI (q + 1)))]) rfl ?_
        exact ih20 My4 (q + 1) be4 (cl + 0 + 2) (sl + 0 + 304) (by omega) (by omega) (by omega) hWDn (hXTl.tr hKb hXTn (fun k hk => clS_lv hw hnp0 ho hq6 hk)) ((hCFl.tr hXTl (CF.bx hqq hbx3)).tr hXTl hCF4) (hKb.tr hKK4) hfrn (by omega)
  refine V.sub [2, 1, 0] (lo' := [(0, .ref (α 0)), (1, .int (nI (un τ 51 51))), (2, .int (nI 0))]) rfl ?_
  exact lp20 _ M 0 α 1 6 (by decide) (by decide) (Nat.zero_le _) (⟨hws, hwt, hwb⟩) XT.rf CF.rf (fun x hx => rfl) (fun r hr => absurd hr (Nat.not_lt_zero _)) (Nat.lt_succ_self _)

