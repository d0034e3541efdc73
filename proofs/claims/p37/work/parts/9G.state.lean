/-! THE CLASS: state, pension -/
theorem sI_r {τ : Mu} {j i k : Nat} {z : Int32} (h : k ≠ j) : (sI τ j i z).1 k = τ.1 k := by
  show up2 τ.1 j i z k = τ.1 k
  exact up2_row _ _ h
theorem sx_U {τ : Mu} {i j : Nat} {z : Int32} (h : j ≠ i) : (sI τ 36 i z).1 36 j = τ.1 36 j := sI_k h
theorem sx_w {τ : Mu} {G : gW} {α : Nat → Nat} {M M1 : Mem} {c d a : Nat} (hp : c < 6) (hd : d < 24) (ha : a < 2 ^ 31) (hw : WF τ) (hwU : WF (sI τ 36 (24 * c + d) (nI a))) (ws : WS τ G α M) (wt : WT τ α M) (wb : WB τ α M) (f : frm (fun x => x = hO α c 5 ∨ x = hO α c 6) M M1) (s : StV (upV (stV τ c) d (nI a)) (mI M1) (hO α c 5) (hO α c 6) 24) : WD (sI τ 36 (24 * c + d) (nI a)) G α (wI M1 (bO α c 0) 0 (nI 1)) := by
  have hb := (ws.2.2.1 c hp).1
  have hU : ∀ k, k ≠ 30 → k ≠ 36 → k ≠ 37 → (sI τ 36 (24 * c + d) (nI a)).1 k = τ.1 k := fun k h1 h2 h3 => up2_row _ _ (by omega)
  have no : ∀ o, o < 57 → o ≠ 5 → o ≠ 6 → ¬ (hO α c o = hO α c 5 ∨ hO α c o = hO α c 6) := fun o ho n1 n2 q => q.elim (hb.neq (show o < 57 from ho) (show 5 < 57 by decide) n1) (hb.neq (show o < 57 from ho) (show 6 < 57 by decide) n2)
  have e : ∀ o, o < 15 → o ≠ 5 → o ≠ 6 → mI M1 (hO α c o) = mI M (hO α c o) := fun o ho n1 n2 => f.i (no o (by omega) n1 n2)
  have el : ∀ o, o < 15 → o ≠ 5 → o ≠ 6 → mL M1 (hO α c o) = mL M (hO α c o) := fun o ho n1 n2 => f.l (no o (by omega) n1 n2)
  obtain ⟨b1, b2, b3, b4, b5, b6, b7⟩ := wt.2.1 c hp
  have h0 : mI M1 (hO α c 0) 0 = nI c := (congrFun (e 0 (by decide) (by decide) (by decide)) 0).trans b1
  have eV : stV (sI τ 36 (24 * c + d) (nI a)) c = upV (stV τ c) d (nI a) := upV_e (f := fun m => (sI τ 36 (24 * c + d) (nI a)).1 36 (24 * c + m)) (g := fun m => τ.1 36 (24 * c + m)) (nn32 ha) sI_s (fun m hm => sI_k (by omega))
  refine pt_w (τ := τ) hp hw hwU hU rfl rfl rfl (fun r hr q => ⟨fun k hk => hU k (by omega) (by omega) (by omega), fun k h1 h2 => hU k (by omega) (by omega) (by omega), fun k h1 h2 => hU k (by omega) (by omega) (by omega), fun m q _ _ => congrFun (show (sI τ 36 (24 * c + d) (nI a)).1 30 = τ.1 30 from sI_r (by decide)) _, fun m hm => sI_k (by rcases Nat.lt_trichotomy r c with z | z | z <;> omega), fun m hm => congrFun (show (sI τ 36 (24 * c + d) (nI a)).1 37 = τ.1 37 from sI_r (by decide)) _, fun m hm => rfl⟩) ws wt wb (f.mono fun x h => h.elim (fun h => ⟨5, by decide, by decide, h⟩) (fun h => ⟨6, by decide, by decide, h⟩)) h0 ?_
  refine ⟨h0, ?_, ?_, fun q hq m hm => ?_, fun k hk => ?_, ?_, ?_⟩
  · rw [eV]; exact s
  · rw [show ptV (sI τ 36 (24 * c + d) (nI a)) c = ptV τ c by unfold ptV; rw [show (sI τ 36 (24 * c + d) (nI a)).1 37 = τ.1 37 from sI_r (by decide)]]; unfold StV; rw [e 8 (by decide) (by decide) (by decide), e 9 (by decide) (by decide) (by decide)]; exact b3
  · rw [e (11 + q) (by omega) (by omega) (by omega)]; exact (b4 q hq m hm).trans (congrFun (show (sI τ 36 (24 * c + d) (nI a)).1 30 = τ.1 30 from sI_r (by decide)) _).symm
  · rw [el 14 (by decide) (by decide) (by decide)]; exact b5 k hk
  · rw [el 0 (by decide) (by decide) (by decide)]; exact b6
  · rw [el 0 (by decide) (by decide) (by decide)]; exact b7
theorem px_U {τ : Mu} {i j : Nat} {z : Int32} (h : j ≠ i) : (sI τ 37 i z).1 37 j = τ.1 37 j := sI_k h
theorem px_w {τ : Mu} {G : gW} {α : Nat → Nat} {M M1 : Mem} {c d a : Nat} (hp : c < 6) (hd : d < 24) (ha : a < 2 ^ 31) (hw : WF τ) (hwU : WF (sI τ 37 (24 * c + d) (nI a))) (ws : WS τ G α M) (wt : WT τ α M) (wb : WB τ α M) (f : frm (fun x => x = hO α c 8 ∨ x = hO α c 9) M M1) (s : StV (upV (ptV τ c) d (nI a)) (mI M1) (hO α c 8) (hO α c 9) 24) : WD (sI τ 37 (24 * c + d) (nI a)) G α (wI M1 (bO α c 0) 0 (nI 1)) := by
  have hb := (ws.2.2.1 c hp).1
  have hU : ∀ k, k ≠ 30 → k ≠ 36 → k ≠ 37 → (sI τ 37 (24 * c + d) (nI a)).1 k = τ.1 k := fun k h1 h2 h3 => up2_row _ _ (by omega)
  have no : ∀ o, o < 57 → o ≠ 8 → o ≠ 9 → ¬ (hO α c o = hO α c 8 ∨ hO α c o = hO α c 9) := fun o ho n1 n2 q => q.elim (hb.neq (show o < 57 from ho) (show 8 < 57 by decide) n1) (hb.neq (show o < 57 from ho) (show 9 < 57 by decide) n2)
  have e : ∀ o, o < 15 → o ≠ 8 → o ≠ 9 → mI M1 (hO α c o) = mI M (hO α c o) := fun o ho n1 n2 => f.i (no o (by omega) n1 n2)
  have el : ∀ o, o < 15 → o ≠ 8 → o ≠ 9 → mL M1 (hO α c o) = mL M (hO α c o) := fun o ho n1 n2 => f.l (no o (by omega) n1 n2)
  obtain ⟨b1, b2, b3, b4, b5, b6, b7⟩ := wt.2.1 c hp
  have h0 : mI M1 (hO α c 0) 0 = nI c := (congrFun (e 0 (by decide) (by decide) (by decide)) 0).trans b1
  have eV : ptV (sI τ 37 (24 * c + d) (nI a)) c = upV (ptV τ c) d (nI a) := upV_e (f := fun m => (sI τ 37 (24 * c + d) (nI a)).1 37 (24 * c + m)) (g := fun m => τ.1 37 (24 * c + m)) (nn32 ha) sI_s (fun m hm => sI_k (by omega))
  refine pt_w (τ := τ) hp hw hwU hU rfl rfl rfl (fun r hr q => ⟨fun k hk => hU k (by omega) (by omega) (by omega), fun k h1 h2 => hU k (by omega) (by omega) (by omega), fun k h1 h2 => hU k (by omega) (by omega) (by omega), fun m q _ _ => congrFun (show (sI τ 37 (24 * c + d) (nI a)).1 30 = τ.1 30 from sI_r (by decide)) _, fun m hm => congrFun (show (sI τ 37 (24 * c + d) (nI a)).1 36 = τ.1 36 from sI_r (by decide)) _, fun m hm => sI_k (by rcases Nat.lt_trichotomy r c with z | z | z <;> omega), fun m hm => rfl⟩) ws wt wb (f.mono fun x h => h.elim (fun h => ⟨8, by decide, by decide, h⟩) (fun h => ⟨9, by decide, by decide, h⟩)) h0 ?_
  refine ⟨h0, ?_, ?_, fun q hq m hm => ?_, fun k hk => ?_, ?_, ?_⟩
  · rw [show stV (sI τ 37 (24 * c + d) (nI a)) c = stV τ c by unfold stV; rw [show (sI τ 37 (24 * c + d) (nI a)).1 36 = τ.1 36 from sI_r (by decide)]]; unfold StV; rw [e 5 (by decide) (by decide) (by decide), e 6 (by decide) (by decide) (by decide)]; exact b2
  · rw [eV]; exact s
  · rw [e (11 + q) (by omega) (by omega) (by omega)]; exact (b4 q hq m hm).trans (congrFun (show (sI τ 37 (24 * c + d) (nI a)).1 30 = τ.1 30 from sI_r (by decide)) _).symm
  · rw [el 14 (by decide) (by decide) (by decide)]; exact b5 k hk
  · rw [el 0 (by decide) (by decide) (by decide)]; exact b6
  · rw [el 0 (by decide) (by decide) (by decide)]; exact b7
set_option maxHeartbeats 1000000 in
set_option maxRecDepth 100000 in
theorem c_X11_state (l : Launch) (hfl : l.flags = flags0) (G : gW) (M : Mem) (τ : Mu) (hw : WF τ) (α : Nat → Nat) (hws : WS τ G α M) (hwt : WT τ α M) (hwb : WB τ α M) (had : ∀ p, p < 6 → AD τ p) (x y z : Int32) : CX l yX11_state cX11_state 4 none 7 2 12 102 G M [.ref (α 0), .int x, .int y, .int z] (fun v M' => PC τ G α M (cd2 (rng x 6 && rng y 24) (inB z (lN 0) (lN 1))) (sI τ 36 (24 * x.toNatClampNeg + y.toNatClampNeg) z) (none) v M') (fun E M' => XP M (cd2 (rng x 6 && rng y 24) (inB z (lN 0) (lN 1))) ["java/lang/IndexOutOfBoundsException", "java/lang/IllegalArgumentException"] E M') := by
  refine CX.of hfl rfl (Nat.le_of_ble_eq_true rfl) ?_
  intro pp ee ss mm ar bw mt cd C hgX hr hno
  have hx := hws.2.1
  have hwx := hwt.2.2.2.1
  have h9 := hw.nc.2
  have h13 := hw.sh.2
  have h17 := hw.nl.2
  have h26 := hw.ne.2
  have h44 := hw.ng.2
  have h46 := hw.op.2
  have h51 := hw.np.2
  refine V.eLo (lo' := [(0, .ref (α 0)), (1, .int x), (2, .int y), (3, .int z)]) rfl ?_
  have jn19 : V pp l ee ({ frames := 7, cells := 2, slots := 12, locals := 102 } : Room) ss mm ar bw mt cd G (vx_MQ bw (Ke G (fun v M' => PC τ G α M (cd2 (rng x 6 && rng y 24) (inB z (lN 0) (lN 1))) (sI τ 36 (24 * x.toNatClampNeg + y.toNatClampNeg) z) (none) v M')) (Kx G (fun E M' => XP M (cd2 (rng x 6 && rng y 24) (inB z (lN 0) (lN 1))) ["java/lang/IndexOutOfBoundsException", "java/lang/IllegalArgumentException"] E M')) ar ss 2 12 (gA G)) 4 M 0 0 19 [(0, .ref (α 0)), (1, .int x), (2, .int y), (3, .int z)] [.int (bI (rng x 6 && rng y 24))] := by
    skip
    refine r_xS C hgX hno ml_X11_55 st_X11_needThere (c_X11_needThere l hfl G M (rng x 6 && rng y 24)) rfl (Nat.le_of_ble_eq_true rfl) ⟨Nat.le_of_ble_eq_true rfl, Nat.le_of_ble_eq_true rfl⟩ ⟨Nat.le_of_ble_eq_true rfl, Nat.le_of_ble_eq_true rfl⟩ dX11_state_19 rfl (fun E_ M_ h_ => x_2a h_) ⟨Nat.le_of_ble_eq_true rfl, Nat.le_of_ble_eq_true rfl⟩ ?_
    rintro _ _ ⟨rfl, rfl, hq1⟩
    have hq := hq1
    refine r_iload_n C 3 dX11_state_22 rfl rfl ?_
    refine r_callS C hgX ml_X11_226 st_X11_isState (c_X11_isState l hfl G M z) rfl (Nat.le_of_ble_eq_true rfl) ⟨Nat.le_of_ble_eq_true rfl, Nat.le_of_ble_eq_true rfl⟩ ⟨Nat.le_of_ble_eq_true rfl, Nat.le_of_ble_eq_true rfl⟩ dX11_state_23 rfl ?_
    rintro _ _ ⟨rfl, rfl⟩
    refine V.eSt (st' := [.int (bI (rng z 2))]) rfl ?_
    refine V.ei (y := bI (inB z (lN 0) (lN 1))) (congrArg bI (rng_in z 2 (lN 1) rfl).symm) ?_
    refine r_xS C hgX hno ml_X11_64 st_X11_needFitting (c_X11_needFitting l hfl G M (inB z (lN 0) (lN 1))) rfl (Nat.le_of_ble_eq_true rfl) ⟨Nat.le_of_ble_eq_true rfl, Nat.le_of_ble_eq_true rfl⟩ ⟨Nat.le_of_ble_eq_true rfl, Nat.le_of_ble_eq_true rfl⟩ dX11_state_26 rfl (fun E_ M_ h_ => x_2b hq h_) ⟨Nat.le_of_ble_eq_true rfl, Nat.le_of_ble_eq_true rfl⟩ ?_
    rintro _ _ ⟨rfl, rfl, hq2⟩
    have hq2 := hq2
    obtain ⟨hqa, hqb⟩ := Bool.and_eq_true_iff.mp hq
    obtain ⟨c, hc, e_x⟩ := rng_t hqa
    obtain ⟨d, hd, e_y⟩ := rng_t hqb
    obtain ⟨a, ha0, ha, e_z⟩ := inB_N (by decide) (by decide) hq2
    have hbp := (hws.2.2.1 c hc).1
    have hbk := hws.bk hc
    refine V.eLo (lo' := [(0, .ref (α 0)), (1, .int (nI c)), (2, .int (nI d)), (3, .int (nI a))]) (by rw [e_x, e_y, e_z]) ?_
    refine r_aload_n C 0 dX11_state_29 rfl rfl ?_
    refine r_getR C (b := (α 2)) fl_X11_18 rfl (hx.k 0 14 rfl) (hx.r 0 1 2 rfl) dX11_state_30 ?_
    refine r_iload_n C 1 dX11_state_33 rfl rfl ?_
    refine r_aaloadN C (b := (hO α c 0)) 1 (by decide) (hx.k 2 24 rfl) (hx.n 2 6 rfl) (by omega) (by omega) (hws.2.2.1 c (by omega)).2 dX11_state_34 ?_
    refine r_getR C (b := (hO α c 4)) fl_X11_244 rfl (hbp.k 0 11 rfl) (hbp.r 0 4 4 rfl) dX11_state_35 ?_
    refine r_iload_n C 2 dX11_state_38 rfl rfl ?_
    refine r_iload_n C 3 dX11_state_39 rfl rfl ?_
    refine r_callV C hgX (ci := 12) ml_X11_83 im_X10_tell se_X10_tell rfl rfl (hbp.k 4 13 rfl) (c_X10_tell l hfl G M (fun o => hO α c (4 + o)) 24 (by decide) (hbp.sub (tbSt 24) 4 rfl) (stV τ c) (hwt.2.1 c hc).2.1 d a (by omega)) rfl (Nat.le_of_ble_eq_true rfl) ⟨Nat.le_of_ble_eq_true rfl, Nat.le_of_ble_eq_true rfl⟩ ⟨Nat.le_of_ble_eq_true rfl, Nat.le_of_ble_eq_true rfl⟩ dX11_state_40 rfl ?_
    rintro _ My3 ⟨rfl, hfm3, hsv3⟩
    have hfx : frm (fun x => x = hO α c 5 ∨ x = hO α c 6) M My3 := hfm3
    have hsx := hsv3
    have hwsO := hws
    have hfq : frm (PtA α c) M My3 := hfx.mono fun x h => h.elim (fun h => ⟨5, by decide, by decide, h⟩) (fun h => ⟨6, by decide, by decide, h⟩)
    have hws := hwsO.fr hfq (fun k hk => PtA.lc hwsO.1 hc hk)
    have hx := hws.2.1
    have hbp := (hws.2.2.1 c hc).1
    have hbk := hws.bk hc
    refine r_aload_n C 0 dX11_state_43 rfl rfl ?_
    refine r_getR C (b := (α 2)) fl_X11_18 rfl (hx.k 0 14 rfl) (hx.r 0 1 2 rfl) dX11_state_44 ?_
    refine r_iload_n C 1 dX11_state_47 rfl rfl ?_
    refine r_aaloadN C (b := (hO α c 0)) 1 (by decide) (hx.k 2 24 rfl) (hx.n 2 6 rfl) (by omega) (by omega) (hws.2.2.1 c (by omega)).2 dX11_state_48 ?_
    refine r_getR C (b := (bO α c 0)) fl_X11_94 rfl (hbp.k 0 11 rfl) (hbp.r 0 10 15 rfl) dX11_state_49 ?_
    refine r_iconst C (v := nI 1) dX11_state_52 (by decide) ?_
    refine r_putZ C fl_X11_98 (by decide) (hbk.k 0 4 rfl) dX11_state_53 ?_
    refine V.xret ?_
    exact r_vret C hr (⟨k_2 hq hq2, rfl, α, by rw [e_x, e_y, e_z, nI_clamp (n := c) (by omega), nI_clamp (n := d) (by omega)]; exact sx_w hc hd (by omega) hw (wf_state hw ha) hwsO hwt hwb hfx hsx, rfl, CF.tr2 hfq ((frm.rf (fun y => y = bO α c 0) _).wi 0 (nI 1) rfl) (fun a h => PtA.lv hc h) (fun a h => ⟨_, lv_b hc (show 0 < 42 by decide), h⟩), fun _ _ hz_ k_ hk_ => hz_ k_ (LV.u rfl rfl rfl rfl hk_)⟩) (by first | exact Nat.zero_le _ | decide) (by first | exact Nat.zero_le _ | decide) dX11_state_56
  refine r_iload_n C 1 dX11_state_0 rfl rfl ?_
  refine r_callS C hgX ml_X11_45 st_X11_isPerson (c_X11_isPerson l hfl G M x) rfl (Nat.le_of_ble_eq_true rfl) ⟨Nat.le_of_ble_eq_true rfl, Nat.le_of_ble_eq_true rfl⟩ ⟨Nat.le_of_ble_eq_true rfl, Nat.le_of_ble_eq_true rfl⟩ dX11_state_1 rfl ?_
  rintro _ _ ⟨rfl, rfl⟩
  refine V.eSt (st' := [.int (bI (rng x 6))]) rfl ?_
  refine r_if_eqB C (t := 18) dX11_state_4 (by decide) (fun c4 => ?_) (fun c4 => ?_)
  · skip
    refine r_iconst C (v := nI 0) dX11_state_18 (by decide) ?_
    refine V.eSt (st' := [.int (bI false)]) rfl ?_
    refine V.ei (y := bI (rng x 6 && rng y 24)) (congrArg bI (by simp [c4])) ?_
    exact jn19
  · skip
    refine r_iload_n C 2 dX11_state_7 rfl rfl ?_
    refine r_callS C hgX ml_X11_141 st_X11_isMonth (c_X11_isMonth l hfl G M y) rfl (Nat.le_of_ble_eq_true rfl) ⟨Nat.le_of_ble_eq_true rfl, Nat.le_of_ble_eq_true rfl⟩ ⟨Nat.le_of_ble_eq_true rfl, Nat.le_of_ble_eq_true rfl⟩ dX11_state_8 rfl ?_
    rintro _ _ ⟨rfl, rfl⟩
    refine V.eSt (st' := [.int (bI (rng y 24))]) rfl ?_
    refine r_if_eqB C (t := 18) dX11_state_11 (by decide) (fun c11 => ?_) (fun c11 => ?_)
    · skip
      refine r_iconst C (v := nI 0) dX11_state_18 (by decide) ?_
      refine V.eSt (st' := [.int (bI false)]) rfl ?_
      refine V.ei (y := bI (rng x 6 && rng y 24)) (congrArg bI (by simp [c4, c11])) ?_
      exact jn19
    · skip
      refine r_iconst C (v := nI 1) dX11_state_14 (by decide) ?_
      refine r_goto C (t := 19) dX11_state_15 (by decide) ?_
      refine V.eSt (st' := [.int (bI true)]) rfl ?_
      refine V.ei (y := bI (rng x 6 && rng y 24)) (congrArg bI (by simp [c4, c11])) ?_
      exact jn19
set_option maxHeartbeats 1000000 in
set_option maxRecDepth 100000 in
theorem c_X11_pension (l : Launch) (hfl : l.flags = flags0) (G : gW) (M : Mem) (τ : Mu) (hw : WF τ) (α : Nat → Nat) (hws : WS τ G α M) (hwt : WT τ α M) (hwb : WB τ α M) (had : ∀ p, p < 6 → AD τ p) (x y z : Int32) : CX l yX11_pension cX11_pension 4 none 7 2 12 102 G M [.ref (α 0), .int x, .int y, .int z] (fun v M' => PC τ G α M (cd2 (rng x 6 && rng y 24) (inB z (lN 0) (lN 200))) (sI τ 37 (24 * x.toNatClampNeg + y.toNatClampNeg) z) (none) v M') (fun E M' => XP M (cd2 (rng x 6 && rng y 24) (inB z (lN 0) (lN 200))) ["java/lang/IndexOutOfBoundsException", "java/lang/IllegalArgumentException"] E M') := by
  refine CX.of hfl rfl (Nat.le_of_ble_eq_true rfl) ?_
  intro pp ee ss mm ar bw mt cd C hgX hr hno
  have hx := hws.2.1
  have hwx := hwt.2.2.2.1
  have h9 := hw.nc.2
  have h13 := hw.sh.2
  have h17 := hw.nl.2
  have h26 := hw.ne.2
  have h44 := hw.ng.2
  have h46 := hw.op.2
  have h51 := hw.np.2
  refine V.eLo (lo' := [(0, .ref (α 0)), (1, .int x), (2, .int y), (3, .int z)]) rfl ?_
  have jn19 : V pp l ee ({ frames := 7, cells := 2, slots := 12, locals := 102 } : Room) ss mm ar bw mt cd G (vx_MQ bw (Ke G (fun v M' => PC τ G α M (cd2 (rng x 6 && rng y 24) (inB z (lN 0) (lN 200))) (sI τ 37 (24 * x.toNatClampNeg + y.toNatClampNeg) z) (none) v M')) (Kx G (fun E M' => XP M (cd2 (rng x 6 && rng y 24) (inB z (lN 0) (lN 200))) ["java/lang/IndexOutOfBoundsException", "java/lang/IllegalArgumentException"] E M')) ar ss 2 12 (gA G)) 4 M 0 0 19 [(0, .ref (α 0)), (1, .int x), (2, .int y), (3, .int z)] [.int (bI (rng x 6 && rng y 24))] := by
    skip
    refine r_xS C hgX hno ml_X11_55 st_X11_needThere (c_X11_needThere l hfl G M (rng x 6 && rng y 24)) rfl (Nat.le_of_ble_eq_true rfl) ⟨Nat.le_of_ble_eq_true rfl, Nat.le_of_ble_eq_true rfl⟩ ⟨Nat.le_of_ble_eq_true rfl, Nat.le_of_ble_eq_true rfl⟩ dX11_pension_19 rfl (fun E_ M_ h_ => x_2a h_) ⟨Nat.le_of_ble_eq_true rfl, Nat.le_of_ble_eq_true rfl⟩ ?_
    rintro _ _ ⟨rfl, rfl, hq1⟩
    have hq := hq1
    refine r_iload_n C 3 dX11_pension_22 rfl rfl ?_
    refine r_iconst C (v := nI 0) dX11_pension_23 (by decide) ?_
    refine r_sipush C (v := nI 200) dX11_pension_24 (by decide) ?_
    refine r_callS C hgX ml_X11_59 st_X11_isWithin (c_X11_isWithin l hfl G M z (nI 0) (nI 200)) rfl (Nat.le_of_ble_eq_true rfl) ⟨Nat.le_of_ble_eq_true rfl, Nat.le_of_ble_eq_true rfl⟩ ⟨Nat.le_of_ble_eq_true rfl, Nat.le_of_ble_eq_true rfl⟩ dX11_pension_27 rfl ?_
    rintro _ _ ⟨rfl, rfl⟩
    refine V.eSt (st' := [.int (bI (inB z (nI 0).toInt64 (nI 200).toInt64))]) rfl ?_
    refine V.ei (y := bI (inB z (lN 0) (lN 200))) rfl ?_
    refine r_xS C hgX hno ml_X11_64 st_X11_needFitting (c_X11_needFitting l hfl G M (inB z (lN 0) (lN 200))) rfl (Nat.le_of_ble_eq_true rfl) ⟨Nat.le_of_ble_eq_true rfl, Nat.le_of_ble_eq_true rfl⟩ ⟨Nat.le_of_ble_eq_true rfl, Nat.le_of_ble_eq_true rfl⟩ dX11_pension_30 rfl (fun E_ M_ h_ => x_2b hq h_) ⟨Nat.le_of_ble_eq_true rfl, Nat.le_of_ble_eq_true rfl⟩ ?_
    rintro _ _ ⟨rfl, rfl, hq2⟩
    have hq2 := hq2
    obtain ⟨hqa, hqb⟩ := Bool.and_eq_true_iff.mp hq
    obtain ⟨c, hc, e_x⟩ := rng_t hqa
    obtain ⟨d, hd, e_y⟩ := rng_t hqb
    obtain ⟨a, ha0, ha, e_z⟩ := inB_N (by decide) (by decide) hq2
    have hbp := (hws.2.2.1 c hc).1
    have hbk := hws.bk hc
    refine V.eLo (lo' := [(0, .ref (α 0)), (1, .int (nI c)), (2, .int (nI d)), (3, .int (nI a))]) (by rw [e_x, e_y, e_z]) ?_
    refine r_aload_n C 0 dX11_pension_33 rfl rfl ?_
    refine r_getR C (b := (α 2)) fl_X11_18 rfl (hx.k 0 14 rfl) (hx.r 0 1 2 rfl) dX11_pension_34 ?_
    refine r_iload_n C 1 dX11_pension_37 rfl rfl ?_
    refine r_aaloadN C (b := (hO α c 0)) 1 (by decide) (hx.k 2 24 rfl) (hx.n 2 6 rfl) (by omega) (by omega) (hws.2.2.1 c (by omega)).2 dX11_pension_38 ?_
    refine r_getR C (b := (hO α c 7)) fl_X11_247 rfl (hbp.k 0 11 rfl) (hbp.r 0 5 7 rfl) dX11_pension_39 ?_
    refine r_iload_n C 2 dX11_pension_42 rfl rfl ?_
    refine r_iload_n C 3 dX11_pension_43 rfl rfl ?_
    refine r_callV C hgX (ci := 12) ml_X11_83 im_X10_tell se_X10_tell rfl rfl (hbp.k 7 13 rfl) (c_X10_tell l hfl G M (fun o => hO α c (7 + o)) 24 (by decide) (hbp.sub (tbSt 24) 7 rfl) (ptV τ c) (hwt.2.1 c hc).2.2.1 d a (by omega)) rfl (Nat.le_of_ble_eq_true rfl) ⟨Nat.le_of_ble_eq_true rfl, Nat.le_of_ble_eq_true rfl⟩ ⟨Nat.le_of_ble_eq_true rfl, Nat.le_of_ble_eq_true rfl⟩ dX11_pension_44 rfl ?_
    rintro _ My3 ⟨rfl, hfm3, hsv3⟩
    have hfx : frm (fun x => x = hO α c 8 ∨ x = hO α c 9) M My3 := hfm3
    have hsx := hsv3
    have hwsO := hws
    have hfq : frm (PtA α c) M My3 := hfx.mono fun x h => h.elim (fun h => ⟨8, by decide, by decide, h⟩) (fun h => ⟨9, by decide, by decide, h⟩)
    have hws := hwsO.fr hfq (fun k hk => PtA.lc hwsO.1 hc hk)
    have hx := hws.2.1
    have hbp := (hws.2.2.1 c hc).1
    have hbk := hws.bk hc
    refine r_aload_n C 0 dX11_pension_47 rfl rfl ?_
    refine r_getR C (b := (α 2)) fl_X11_18 rfl (hx.k 0 14 rfl) (hx.r 0 1 2 rfl) dX11_pension_48 ?_
    refine r_iload_n C 1 dX11_pension_51 rfl rfl ?_
    refine r_aaloadN C (b := (hO α c 0)) 1 (by decide) (hx.k 2 24 rfl) (hx.n 2 6 rfl) (by omega) (by omega) (hws.2.2.1 c (by omega)).2 dX11_pension_52 ?_
    refine r_getR C (b := (bO α c 0)) fl_X11_94 rfl (hbp.k 0 11 rfl) (hbp.r 0 10 15 rfl) dX11_pension_53 ?_
    refine r_iconst C (v := nI 1) dX11_pension_56 (by decide) ?_
    refine r_putZ C fl_X11_98 (by decide) (hbk.k 0 4 rfl) dX11_pension_57 ?_
    refine V.xret ?_
    exact r_vret C hr (⟨k_2 hq hq2, rfl, α, by rw [e_x, e_y, e_z, nI_clamp (n := c) (by omega), nI_clamp (n := d) (by omega)]; exact px_w hc hd (by omega) hw (wf_pension hw ha) hwsO hwt hwb hfx hsx, rfl, CF.tr2 hfq ((frm.rf (fun y => y = bO α c 0) _).wi 0 (nI 1) rfl) (fun a h => PtA.lv hc h) (fun a h => ⟨_, lv_b hc (show 0 < 42 by decide), h⟩), fun _ _ hz_ k_ hk_ => hz_ k_ (LV.u rfl rfl rfl rfl hk_)⟩) (by first | exact Nat.zero_le _ | decide) (by first | exact Nat.zero_le _ | decide) dX11_pension_60
  refine r_iload_n C 1 dX11_pension_0 rfl rfl ?_
  refine r_callS C hgX ml_X11_45 st_X11_isPerson (c_X11_isPerson l hfl G M x) rfl (Nat.le_of_ble_eq_true rfl) ⟨Nat.le_of_ble_eq_true rfl, Nat.le_of_ble_eq_true rfl⟩ ⟨Nat.le_of_ble_eq_true rfl, Nat.le_of_ble_eq_true rfl⟩ dX11_pension_1 rfl ?_
  rintro _ _ ⟨rfl, rfl⟩
  refine V.eSt (st' := [.int (bI (rng x 6))]) rfl ?_
  refine r_if_eqB C (t := 18) dX11_pension_4 (by decide) (fun c4 => ?_) (fun c4 => ?_)
  · skip
    refine r_iconst C (v := nI 0) dX11_pension_18 (by decide) ?_
    refine V.eSt (st' := [.int (bI false)]) rfl ?_
    refine V.ei (y := bI (rng x 6 && rng y 24)) (congrArg bI (by simp [c4])) ?_
    exact jn19
  · skip
    refine r_iload_n C 2 dX11_pension_7 rfl rfl ?_
    refine r_callS C hgX ml_X11_141 st_X11_isMonth (c_X11_isMonth l hfl G M y) rfl (Nat.le_of_ble_eq_true rfl) ⟨Nat.le_of_ble_eq_true rfl, Nat.le_of_ble_eq_true rfl⟩ ⟨Nat.le_of_ble_eq_true rfl, Nat.le_of_ble_eq_true rfl⟩ dX11_pension_8 rfl ?_
    rintro _ _ ⟨rfl, rfl⟩
    refine V.eSt (st' := [.int (bI (rng y 24))]) rfl ?_
    refine r_if_eqB C (t := 18) dX11_pension_11 (by decide) (fun c11 => ?_) (fun c11 => ?_)
    · skip
      refine r_iconst C (v := nI 0) dX11_pension_18 (by decide) ?_
      refine V.eSt (st' := [.int (bI false)]) rfl ?_
      refine V.ei (y := bI (rng x 6 && rng y 24)) (congrArg bI (by simp [c4, c11])) ?_
      exact jn19
    · skip
      refine r_iconst C (v := nI 1) dX11_pension_14 (by decide) ?_
      refine r_goto C (t := 19) dX11_pension_15 (by decide) ?_
      refine V.eSt (st' := [.int (bI true)]) rfl ?_
      refine V.ei (y := bI (rng x 6 && rng y 24)) (congrArg bI (by simp [c4, c11])) ?_
      exact jn19

