/-! THE CLASS: slips, what is owed, leave, payments, tables asked -/
theorem li_in {τ : Mu} {p m q w : Nat} {α : Nat → Nat} {M : Mem} (h : BkR τ p (mL M) (bO α p) m) (hq : q < 3) : liL (mL M) (bO α p) m q w = inL τ p m q w := by
  unfold liL inL
  rw [(h.1 q hq).1, (h.1 q hq).2.1, (h.1 q hq).2.2.1]
theorem in_I {τ : Mu} {p m q w : Nat} (h : w = 0 ∨ w = 1 ∨ w = 3) : inL τ p m q w = inI τ p m q (nI w) := by
  rcases h with rfl | rfl | rfl
  · rfl
  · rfl
  · show taL τ p m q = inI τ p m q (nI 3)
    unfold inI
    rw [if_neg (by decide), if_neg (by decide)]
theorem ln_sl {τ : Mu} {p m w : Nat} {α : Nat → Nat} {M : Mem} (h : BF τ p α M) (hm : m < 24) : lnL (mL M) (bO α p) m w = slL τ p m w := by
  obtain ⟨b1, _, _, b4, b5⟩ := h.1 m hm
  unfold lnL slL sumS
  rw [b1.2.1, b1.2.2.1, b1.2.2.2, b4, b5, sumL_cg (fun i hi => li_in b1 hi)]
theorem w_3 {w : Int32} (h : (decide (w = 0) || decide (w = nI 1) || decide (w = nI 3)) = true) : ∃ k, (k = 0 ∨ k = 1 ∨ k = 3) ∧ w = nI k := by
  rw [Bool.or_eq_true, Bool.or_eq_true, decide_eq_true_iff, decide_eq_true_iff, decide_eq_true_iff] at h
  rcases h with (h | h) | h
  · exact ⟨0, .inl rfl, h⟩
  · exact ⟨1, .inr (.inl rfl), h⟩
  · exact ⟨3, .inr (.inr rfl), h⟩
theorem pd_s {τ : Mu} {p : Nat} {s : Int64} : ∀ n, pdL τ p s n = s - sumL (fun k => if un τ 47 k = p ∧ un τ 50 k = 0 then τ.2 49 k else 0) n
  | 0 => (Int64.sub_zero s).symm
  | n + 1 => by
    show pdL τ p s n - (if un τ 47 n = p ∧ un τ 50 n = 0 then τ.2 49 n else lN 0) = s - (sumL (fun k => if un τ 47 k = p ∧ un τ 50 k = 0 then τ.2 49 k else 0) n + (if un τ 47 n = p ∧ un τ 50 n = 0 then τ.2 49 n else 0))
    rw [pd_s n, show (lN 0 : Int64) = 0 from rfl]
    simp only [Int64.sub_eq_add_neg, Int64.neg_add]
    ac_rfl
theorem WB.tk {τ : Mu} {α : Nat → Nat} {p nl u : Nat} {ln : Nat → Nat} {M M1 : Mem} (hi : INJ τ α) (hw : WF τ) (hp : p < 6) (h2 : EnL τ p nl ln) (w : WB τ α M) (g : frm (LaA nl (fun i => lO α (ln i))) M M1) (ga : ∀ i, i < nl → un τ 15 (ln i) < u → mI M1 (lO α (ln i)) 2 = nI (ltN τ (ln i))) (gb : ∀ i, i < nl → u ≤ un τ 15 (ln i) → mI M1 (lO α (ln i)) 2 = mI M (lO α (ln i)) 2) : WB τ α M1 := by
  have h9 := hw.nc.2
  have n : ∀ k, LV τ k → (k < 1200 ∨ 1230 ≤ k) → ¬ LaA nl (fun i => lO α (ln i)) (α k) := fun k hk hn => by
    rintro ⟨j, b, e⟩
    have h17 := hw.nl.2
    exact hi.ne hk (lv_l (h2.1 j b).1) (by have := (h2.1 j b).1; omega) e
  have nc : ∀ c, c < un τ 9 9 → ∀ o, o < 10 → ¬ LaA nl (fun i => lO α (ln i)) (cO α c o) := fun c hc o ho => n _ (lv_c hc ho) (by omega)
  have cw : ∀ c, c < un τ 9 9 → CoW τ c (mI M) (mL M) (cO α c) → CoW τ c (mI M1) (mL M1) (cO α c) := fun c hc h => h.fr g (nc c hc 7 (by decide)) (nc c hc 8 (by decide))
  refine ⟨fun c hc hz => cw c hc (w.1 c hc (by rw [← g.i (nc c hc 0 (by decide))]; exact hz)), fun r hr hz => ?_⟩
  have nb : ∀ o, o < 42 → ¬ LaA nl (fun i => lO α (ln i)) (bO α r o) := fun o ho => n _ (lv_b hr ho) (by omega)
  obtain ⟨w1, w2, w3, w4⟩ := w.2 r hr (by rw [← g.i (nb 0 (by decide))]; exact hz)
  refine ⟨fun m hm => ?_, fun x hx q k hk => ?_, fun c hc q => ⟨cw c hc (w3 c hc q).1, fun x hx => ?_⟩, fun k hk q => ?_⟩
  · obtain ⟨b1, b2, b3, b4, b5⟩ := w1 m hm
    refine ⟨b1.cg (fun o _ ho => by rw [g.l (nb o (by omega))]), by rw [g.i (nb 36 (by decide))]; exact b2, fun x hx => by rw [g.l (nb (30 + x) (by omega))]; exact b3 x hx, by rw [g.l (nb 40 (by decide))]; exact b4, by rw [g.l (nb 41 (by decide))]; exact b5⟩
  · have h44 := hw.ng.2
    rw [show mL M1 (aO α x 1) = mL M (aO α x 1) from g.l (n _ (lv_a hx (show 1 < 2 by decide)) (by omega))]
    exact w2 x hx q k hk
  · rw [g.l (nc c hc 9 (by decide))]
    exact (w3 c hc q).2 x hx
  · by_cases e : ∃ i, i < nl ∧ ln i = k
    · obtain ⟨i, a, rfl⟩ := e
      by_cases d : un τ 15 (ln i) < u
      · exact ga i a d
      · exact (gb i a (by omega)).trans (w4 _ hk q)
    · rw [show mI M1 (lO α k) = mI M (lO α k) from g.i (by
        rintro ⟨i, a, z⟩
        have := hi _ _ (lv_l hk) (lv_l (h2.1 i a).1) z
        exact e ⟨i, a, by omega⟩)]
      exact w4 k hk q
set_option maxHeartbeats 1000000 in
set_option maxRecDepth 100000 in
theorem c_X11_slip (l : Launch) (hfl : l.flags = flags0) (G : gW) (M : Mem) (τ : Mu) (hw : WF τ) (α : Nat → Nat) (hws : WS τ G α M) (hwt : WT τ α M) (hwb : WB τ α M) (had : ∀ p, p < 6 → AD τ p) (x y z : Int32) : CX l yX11_slip cX11_slip 4 (some .long) 7 2 12 188 G M [.ref (α 0), .int x, .int y, .int z] (fun v M' => PC τ G α M (cd2 (rng x 6 && rng y 24) (inB z (lN 0) (lN 7))) (τ) (some (.long (slL τ x.toNatClampNeg y.toNatClampNeg z.toNatClampNeg))) v M') (fun E M' => XP M (cd2 (rng x 6 && rng y 24) (inB z (lN 0) (lN 7))) ["java/lang/IndexOutOfBoundsException", "java/lang/IllegalArgumentException"] E M') := by
  refine CX.of hfl rfl (Nat.le_of_ble_eq_true rfl) ?_
  intro pp ee ss mm ar bw mt cd C hgX hr hno
  have hx := hws.2.1
  have hwx := hwt.2.2.2.1
  have h9 := hw.nc.2
  have h13 := hw.sh.2
  have h17 := hw.nl.2
  have h26 := hw.ne.2
  have h44 := hw.ng.2
  have h46 := hw.op.2
  have h51 := hw.np.2
  refine V.eLo (lo' := [(0, .ref (α 0)), (1, .int x), (2, .int y), (3, .int z)]) rfl ?_
  have jn19 : V pp l ee ({ frames := 7, cells := 2, slots := 12, locals := 188 } : Room) ss mm ar bw mt cd G (vx_MQ bw (Ke G (fun v M' => PC τ G α M (cd2 (rng x 6 && rng y 24) (inB z (lN 0) (lN 7))) (τ) (some (.long (slL τ x.toNatClampNeg y.toNatClampNeg z.toNatClampNeg))) v M')) (Kx G (fun E M' => XP M (cd2 (rng x 6 && rng y 24) (inB z (lN 0) (lN 7))) ["java/lang/IndexOutOfBoundsException", "java/lang/IllegalArgumentException"] E M')) ar ss 2 12 (gA G)) 4 M 0 0 19 [(0, .ref (α 0)), (1, .int x), (2, .int y), (3, .int z)] [.int (bI (rng x 6 && rng y 24))] := by
    skip
    refine r_xS C hgX hno ml_X11_55 st_X11_needThere (c_X11_needThere l hfl G M (rng x 6 && rng y 24)) rfl (Nat.le_of_ble_eq_true rfl) ⟨Nat.le_of_ble_eq_true rfl, Nat.le_of_ble_eq_true rfl⟩ ⟨Nat.le_of_ble_eq_true rfl, Nat.le_of_ble_eq_true rfl⟩ dX11_slip_19 rfl (fun E_ M_ h_ => x_2a h_) ⟨Nat.le_of_ble_eq_true rfl, Nat.le_of_ble_eq_true rfl⟩ ?_
    rintro _ _ ⟨rfl, rfl, hq1⟩
    have hq := hq1
    refine r_iload_n C 3 dX11_slip_22 rfl rfl ?_
    refine r_iconst C (v := nI 0) dX11_slip_23 (by decide) ?_
    refine r_bipush C (v := nI 7) dX11_slip_24 (by decide) ?_
    refine r_callS C hgX ml_X11_59 st_X11_isWithin (c_X11_isWithin l hfl G M z (nI 0) (nI 7)) rfl (Nat.le_of_ble_eq_true rfl) ⟨Nat.le_of_ble_eq_true rfl, Nat.le_of_ble_eq_true rfl⟩ ⟨Nat.le_of_ble_eq_true rfl, Nat.le_of_ble_eq_true rfl⟩ dX11_slip_26 rfl ?_
    rintro _ _ ⟨rfl, rfl⟩
    refine V.eSt (st' := [.int (bI (inB z (nI 0).toInt64 (nI 7).toInt64))]) rfl ?_
    refine V.ei (y := bI (inB z (lN 0) (lN 7))) rfl ?_
    refine r_xS C hgX hno ml_X11_64 st_X11_needFitting (c_X11_needFitting l hfl G M (inB z (lN 0) (lN 7))) rfl (Nat.le_of_ble_eq_true rfl) ⟨Nat.le_of_ble_eq_true rfl, Nat.le_of_ble_eq_true rfl⟩ ⟨Nat.le_of_ble_eq_true rfl, Nat.le_of_ble_eq_true rfl⟩ dX11_slip_29 rfl (fun E_ M_ h_ => x_2b hq h_) ⟨Nat.le_of_ble_eq_true rfl, Nat.le_of_ble_eq_true rfl⟩ ?_
    rintro _ _ ⟨rfl, rfl, hq2⟩
    have hq2 := hq2
    obtain ⟨hqa, hqb⟩ := Bool.and_eq_true_iff.mp hq
    obtain ⟨c, hc, e_x⟩ := rng_t hqa
    obtain ⟨d, hd, e_y⟩ := rng_t hqb
    obtain ⟨w, hw0, hw7, e_z⟩ := inB_N (by decide) (by decide) hq2
    refine V.eLo (lo' := [(0, .ref (α 0)), (1, .int (nI c)), (2, .int (nI d)), (3, .int (nI w))]) (by rw [e_x, e_y, e_z]) ?_
    refine r_aload_n C 0 dX11_slip_32 rfl rfl ?_
    refine r_iload_n C 1 dX11_slip_33 rfl rfl ?_
    refine r_callV C hgX (ci := 13) ml_X11_144 im_X11_bookOf se_X11_bookOf rfl rfl (hx.k 0 14 rfl) (c_X11_bookOf l hfl G M τ hw α hws hwt hwb had c hc) rfl (Nat.le_of_ble_eq_true rfl) ⟨Nat.le_of_ble_eq_true rfl, Nat.le_of_ble_eq_true rfl⟩ ⟨Nat.le_of_ble_eq_true rfl, Nat.le_of_ble_eq_true rfl⟩ dX11_slip_34 rfl ?_
    rintro _ My3 ⟨rfl, hbx3, hws3, hwt3, hwb3, hbz3⟩
    refine V.eSt (st' := [.ref (bO α c 0)]) rfl ?_
    have hbf := hwb3.2 _ hc hbz3
    have hbk := hws3.bk hc
    refine r_iload_n C 2 dX11_slip_37 rfl rfl ?_
    refine r_iload_n C 3 dX11_slip_38 rfl rfl ?_
    refine r_callV C hgX (ci := 3) ml_X11_256 im_X0_line se_X0_line rfl rfl (hbk.k 0 4 rfl) (c_X0_line l hfl G My3 (bO α c) hbk d w (by omega) (by omega)) rfl (Nat.le_of_ble_eq_true rfl) ⟨Nat.le_of_ble_eq_true rfl, Nat.le_of_ble_eq_true rfl⟩ ⟨Nat.le_of_ble_eq_true rfl, Nat.le_of_ble_eq_true rfl⟩ dX11_slip_39 rfl ?_
    rintro _ _ ⟨rfl, rfl⟩
    refine V.eSt (st' := [.long (lnL (mL My3) (bO α c) d w)]) rfl ?_
    refine V.el (y := slL τ c d w) (ln_sl hbf hd) ?_
    refine V.xret ?_
    exact r_lret C hr (⟨k_2 hq hq2, by rw [e_x, e_y, e_z, nI_clamp (n := c) (by omega), nI_clamp (n := d) (by omega), nI_clamp (n := w) (by omega)], ⟨α, ⟨hws3, hwt3, hwb3⟩, rfl, CF.bx hc hbx3, fun _ _ hz_ => hz_⟩⟩) (by first | exact Nat.zero_le _ | decide) (by first | exact Nat.zero_le _ | decide) dX11_slip_42
  refine r_iload_n C 1 dX11_slip_0 rfl rfl ?_
  refine r_callS C hgX ml_X11_45 st_X11_isPerson (c_X11_isPerson l hfl G M x) rfl (Nat.le_of_ble_eq_true rfl) ⟨Nat.le_of_ble_eq_true rfl, Nat.le_of_ble_eq_true rfl⟩ ⟨Nat.le_of_ble_eq_true rfl, Nat.le_of_ble_eq_true rfl⟩ dX11_slip_1 rfl ?_
  rintro _ _ ⟨rfl, rfl⟩
  refine V.eSt (st' := [.int (bI (rng x 6))]) rfl ?_
  refine r_if_eqB C (t := 18) dX11_slip_4 (by decide) (fun c4 => ?_) (fun c4 => ?_)
  · skip
    refine r_iconst C (v := nI 0) dX11_slip_18 (by decide) ?_
    refine V.eSt (st' := [.int (bI false)]) rfl ?_
    refine V.ei (y := bI (rng x 6 && rng y 24)) (congrArg bI (by simp [c4])) ?_
    exact jn19
  · skip
    refine r_iload_n C 2 dX11_slip_7 rfl rfl ?_
    refine r_callS C hgX ml_X11_141 st_X11_isMonth (c_X11_isMonth l hfl G M y) rfl (Nat.le_of_ble_eq_true rfl) ⟨Nat.le_of_ble_eq_true rfl, Nat.le_of_ble_eq_true rfl⟩ ⟨Nat.le_of_ble_eq_true rfl, Nat.le_of_ble_eq_true rfl⟩ dX11_slip_8 rfl ?_
    rintro _ _ ⟨rfl, rfl⟩
    refine V.eSt (st' := [.int (bI (rng y 24))]) rfl ?_
    refine r_if_eqB C (t := 18) dX11_slip_11 (by decide) (fun c11 => ?_) (fun c11 => ?_)
    · skip
      refine r_iconst C (v := nI 0) dX11_slip_18 (by decide) ?_
      refine V.eSt (st' := [.int (bI false)]) rfl ?_
      refine V.ei (y := bI (rng x 6 && rng y 24)) (congrArg bI (by simp [c4, c11])) ?_
      exact jn19
    · skip
      refine r_iconst C (v := nI 1) dX11_slip_14 (by decide) ?_
      refine r_goto C (t := 19) dX11_slip_15 (by decide) ?_
      refine V.eSt (st' := [.int (bI true)]) rfl ?_
      refine V.ei (y := bI (rng x 6 && rng y 24)) (congrArg bI (by simp [c4, c11])) ?_
      exact jn19
set_option maxHeartbeats 1000000 in
set_option maxRecDepth 100000 in
theorem c_X11_slipIn (l : Launch) (hfl : l.flags = flags0) (G : gW) (M : Mem) (τ : Mu) (hw : WF τ) (α : Nat → Nat) (hws : WS τ G α M) (hwt : WT τ α M) (hwb : WB τ α M) (had : ∀ p, p < 6 → AD τ p) (x y z w : Int32) : CX l yX11_slipIn cX11_slipIn 5 (some .long) 7 2 12 188 G M [.ref (α 0), .int x, .int y, .int z, .int w] (fun v M' => PC τ G α M (cd2 (rng x 6 && rng y 24 && rng z 3) (decide (w = 0) || decide (w = nI 1) || decide (w = nI 3))) (τ) (some (.long (inI τ x.toNatClampNeg y.toNatClampNeg z.toNatClampNeg w))) v M') (fun E M' => XP M (cd2 (rng x 6 && rng y 24 && rng z 3) (decide (w = 0) || decide (w = nI 1) || decide (w = nI 3))) ["java/lang/IndexOutOfBoundsException", "java/lang/IllegalArgumentException"] E M') := by
  refine CX.of hfl rfl (Nat.le_of_ble_eq_true rfl) ?_
  intro pp ee ss mm ar bw mt cd C hgX hr hno
  have hx := hws.2.1
  have hwx := hwt.2.2.2.1
  have h9 := hw.nc.2
  have h13 := hw.sh.2
  have h17 := hw.nl.2
  have h26 := hw.ne.2
  have h44 := hw.ng.2
  have h46 := hw.op.2
  have h51 := hw.np.2
  refine V.eLo (lo' := [(0, .ref (α 0)), (1, .int x), (2, .int y), (3, .int z), (4, .int w)]) rfl ?_
  have jn26 : V pp l ee ({ frames := 7, cells := 2, slots := 12, locals := 188 } : Room) ss mm ar bw mt cd G (vx_MQ bw (Ke G (fun v M' => PC τ G α M (cd2 (rng x 6 && rng y 24 && rng z 3) (decide (w = 0) || decide (w = nI 1) || decide (w = nI 3))) (τ) (some (.long (inI τ x.toNatClampNeg y.toNatClampNeg z.toNatClampNeg w))) v M')) (Kx G (fun E M' => XP M (cd2 (rng x 6 && rng y 24 && rng z 3) (decide (w = 0) || decide (w = nI 1) || decide (w = nI 3))) ["java/lang/IndexOutOfBoundsException", "java/lang/IllegalArgumentException"] E M')) ar ss 2 12 (gA G)) 5 M 0 0 26 [(0, .ref (α 0)), (1, .int x), (2, .int y), (3, .int z), (4, .int w)] [.int (bI (rng x 6 && rng y 24 && rng z 3))] := by
    skip
    refine r_xS C hgX hno ml_X11_55 st_X11_needThere (c_X11_needThere l hfl G M (rng x 6 && rng y 24 && rng z 3)) rfl (Nat.le_of_ble_eq_true rfl) ⟨Nat.le_of_ble_eq_true rfl, Nat.le_of_ble_eq_true rfl⟩ ⟨Nat.le_of_ble_eq_true rfl, Nat.le_of_ble_eq_true rfl⟩ dX11_slipIn_26 rfl (fun E_ M_ h_ => x_2a h_) ⟨Nat.le_of_ble_eq_true rfl, Nat.le_of_ble_eq_true rfl⟩ ?_
    rintro _ _ ⟨rfl, rfl, hq1⟩
    have hq := hq1
    have jn51 : V pp l ee ({ frames := 7, cells := 2, slots := 12, locals := 188 } : Room) ss mm ar bw mt cd G (vx_MQ bw (Ke G (fun v M' => PC τ G α M (cd2 (rng x 6 && rng y 24 && rng z 3) (decide (w = 0) || decide (w = nI 1) || decide (w = nI 3))) (τ) (some (.long (inI τ x.toNatClampNeg y.toNatClampNeg z.toNatClampNeg w))) v M')) (Kx G (fun E M' => XP M (cd2 (rng x 6 && rng y 24 && rng z 3) (decide (w = 0) || decide (w = nI 1) || decide (w = nI 3))) ["java/lang/IndexOutOfBoundsException", "java/lang/IllegalArgumentException"] E M')) ar ss 2 12 (gA G)) 5 M 1 6 51 [(0, .ref (α 0)), (1, .int x), (2, .int y), (3, .int z), (4, .int w)] [.int (bI (decide (w = 0) || decide (w = nI 1) || decide (w = nI 3)))] := by
      skip
      refine r_xS C hgX hno ml_X11_64 st_X11_needFitting (c_X11_needFitting l hfl G M (decide (w = 0) || decide (w = nI 1) || decide (w = nI 3))) rfl (Nat.le_of_ble_eq_true rfl) ⟨Nat.le_of_ble_eq_true rfl, Nat.le_of_ble_eq_true rfl⟩ ⟨Nat.le_of_ble_eq_true rfl, Nat.le_of_ble_eq_true rfl⟩ dX11_slipIn_51 rfl (fun E_ M_ h_ => x_2b hq h_) ⟨Nat.le_of_ble_eq_true rfl, Nat.le_of_ble_eq_true rfl⟩ ?_
      rintro _ _ ⟨rfl, rfl, hq2⟩
      have hq2 := hq2
      obtain ⟨hqa, hqb⟩ := Bool.and_eq_true_iff.mp hq
      obtain ⟨hqa, hqc⟩ := Bool.and_eq_true_iff.mp hqa
      obtain ⟨c, hc, e_x⟩ := rng_t hqa
      obtain ⟨d, hd, e_y⟩ := rng_t hqc
      obtain ⟨e, he, e_z⟩ := rng_t hqb
      obtain ⟨k, hk, e_w⟩ := w_3 hq2
      refine V.eLo (lo' := [(0, .ref (α 0)), (1, .int (nI c)), (2, .int (nI d)), (3, .int (nI e)), (4, .int (nI k))]) (by rw [e_x, e_y, e_z, e_w]) ?_
      refine r_aload_n C 0 dX11_slipIn_54 rfl rfl ?_
      refine r_iload_n C 1 dX11_slipIn_55 rfl rfl ?_
      refine r_callV C hgX (ci := 13) ml_X11_144 im_X11_bookOf se_X11_bookOf rfl rfl (hx.k 0 14 rfl) (c_X11_bookOf l hfl G M τ hw α hws hwt hwb had c hc) rfl (Nat.le_of_ble_eq_true rfl) ⟨Nat.le_of_ble_eq_true rfl, Nat.le_of_ble_eq_true rfl⟩ ⟨Nat.le_of_ble_eq_true rfl, Nat.le_of_ble_eq_true rfl⟩ dX11_slipIn_56 rfl ?_
      rintro _ My3 ⟨rfl, hbx3, hws3, hwt3, hwb3, hbz3⟩
      refine V.eSt (st' := [.ref (bO α c 0)]) rfl ?_
      have hbf := hwb3.2 _ hc hbz3
      have hbk := hws3.bk hc
      refine r_iload_n C 2 dX11_slipIn_59 rfl rfl ?_
      refine r_iload_n C 3 dX11_slipIn_60 rfl rfl ?_
      refine r_iload C 4 dX11_slipIn_61 rfl ?_
      refine r_callV C hgX (ci := 3) ml_X11_260 im_X0_lineIn se_X0_lineIn rfl rfl (hbk.k 0 4 rfl) (c_X0_lineIn l hfl G My3 (bO α c) hbk d e k (by omega) (by omega) (by omega)) rfl (Nat.le_of_ble_eq_true rfl) ⟨Nat.le_of_ble_eq_true rfl, Nat.le_of_ble_eq_true rfl⟩ ⟨Nat.le_of_ble_eq_true rfl, Nat.le_of_ble_eq_true rfl⟩ dX11_slipIn_63 rfl ?_
      rintro _ _ ⟨rfl, rfl⟩
      refine V.eSt (st' := [.long (liL (mL My3) (bO α c) d e k)]) rfl ?_
      refine V.el (y := inI τ c d e (nI k)) ((li_in (hbf.1 d hd).1 he).trans (in_I hk)) ?_
      refine V.xret ?_
      exact r_lret C hr (⟨k_2 hq hq2, by rw [e_x, e_y, e_z, e_w, nI_clamp (n := c) (by omega), nI_clamp (n := d) (by omega), nI_clamp (n := e) (by omega)], ⟨α, ⟨hws3, hwt3, hwb3⟩, rfl, CF.bx hc hbx3, fun _ _ hz_ => hz_⟩⟩) (by first | exact Nat.zero_le _ | decide) (by first | exact Nat.zero_le _ | decide) dX11_slipIn_66
    refine r_iload C 4 dX11_slipIn_29 rfl ?_
    refine r_if_eq C (t := 46) dX11_slipIn_31 (by decide) (fun c31 => ?_) (fun c31 => ?_)
    · skip
      refine r_iconst C (v := nI 1) dX11_slipIn_46 (by decide) ?_
      refine r_goto C (t := 51) dX11_slipIn_47 (by decide) ?_
      refine V.eSt (st' := [.int (bI true)]) rfl ?_
      refine V.ei (y := bI (decide (w = 0) || decide (w = nI 1) || decide (w = nI 3))) (congrArg bI (by simp [c31])) ?_
      exact jn51
    · skip
      refine r_iload C 4 dX11_slipIn_34 rfl ?_
      refine r_iconst C (v := nI 1) dX11_slipIn_36 (by decide) ?_
      refine r_icmp_eq C (t := 46) dX11_slipIn_37 (by decide) (fun c37 => ?_) (fun c37 => ?_)
      · skip
        refine r_iconst C (v := nI 1) dX11_slipIn_46 (by decide) ?_
        refine r_goto C (t := 51) dX11_slipIn_47 (by decide) ?_
        refine V.eSt (st' := [.int (bI true)]) rfl ?_
        refine V.ei (y := bI (decide (w = 0) || decide (w = nI 1) || decide (w = nI 3))) (congrArg bI (by simp [c31, c37])) ?_
        exact jn51
      · skip
        refine r_iload C 4 dX11_slipIn_40 rfl ?_
        refine r_iconst C (v := nI 3) dX11_slipIn_42 (by decide) ?_
        refine r_icmp_ne C (t := 50) dX11_slipIn_43 (by decide) (fun c43 => ?_) (fun c43 => ?_)
        · skip
          refine r_iconst C (v := nI 0) dX11_slipIn_50 (by decide) ?_
          refine V.eSt (st' := [.int (bI false)]) rfl ?_
          refine V.ei (y := bI (decide (w = 0) || decide (w = nI 1) || decide (w = nI 3))) (congrArg bI (by simp [c31, c37, c43])) ?_
          exact jn51
        · skip
          refine r_iconst C (v := nI 1) dX11_slipIn_46 (by decide) ?_
          refine r_goto C (t := 51) dX11_slipIn_47 (by decide) ?_
          refine V.eSt (st' := [.int (bI true)]) rfl ?_
          refine V.ei (y := bI (decide (w = 0) || decide (w = nI 1) || decide (w = nI 3))) (congrArg bI (by simp [c31, c37, c43])) ?_
          exact jn51
  refine r_iload_n C 1 dX11_slipIn_0 rfl rfl ?_
  refine r_callS C hgX ml_X11_45 st_X11_isPerson (c_X11_isPerson l hfl G M x) rfl (Nat.le_of_ble_eq_true rfl) ⟨Nat.le_of_ble_eq_true rfl, Nat.le_of_ble_eq_true rfl⟩ ⟨Nat.le_of_ble_eq_true rfl, Nat.le_of_ble_eq_true rfl⟩ dX11_slipIn_1 rfl ?_
  rintro _ _ ⟨rfl, rfl⟩
  refine V.eSt (st' := [.int (bI (rng x 6))]) rfl ?_
  refine r_if_eqB C (t := 25) dX11_slipIn_4 (by decide) (fun c4 => ?_) (fun c4 => ?_)
  · skip
    refine r_iconst C (v := nI 0) dX11_slipIn_25 (by decide) ?_
    refine V.eSt (st' := [.int (bI false)]) rfl ?_
    refine V.ei (y := bI (rng x 6 && rng y 24 && rng z 3)) (congrArg bI (by simp [c4])) ?_
    exact jn26
  · skip
    refine r_iload_n C 2 dX11_slipIn_7 rfl rfl ?_
    refine r_callS C hgX ml_X11_141 st_X11_isMonth (c_X11_isMonth l hfl G M y) rfl (Nat.le_of_ble_eq_true rfl) ⟨Nat.le_of_ble_eq_true rfl, Nat.le_of_ble_eq_true rfl⟩ ⟨Nat.le_of_ble_eq_true rfl, Nat.le_of_ble_eq_true rfl⟩ dX11_slipIn_8 rfl ?_
    rintro _ _ ⟨rfl, rfl⟩
    refine V.eSt (st' := [.int (bI (rng y 24))]) rfl ?_
    refine r_if_eqB C (t := 25) dX11_slipIn_11 (by decide) (fun c11 => ?_) (fun c11 => ?_)
    · skip
      refine r_iconst C (v := nI 0) dX11_slipIn_25 (by decide) ?_
      refine V.eSt (st' := [.int (bI false)]) rfl ?_
      refine V.ei (y := bI (rng x 6 && rng y 24 && rng z 3)) (congrArg bI (by simp [c4, c11])) ?_
      exact jn26
    · skip
      refine r_iload_n C 3 dX11_slipIn_14 rfl rfl ?_
      refine r_callS C hgX ml_X11_49 st_X11_isPlace (c_X11_isPlace l hfl G M z) rfl (Nat.le_of_ble_eq_true rfl) ⟨Nat.le_of_ble_eq_true rfl, Nat.le_of_ble_eq_true rfl⟩ ⟨Nat.le_of_ble_eq_true rfl, Nat.le_of_ble_eq_true rfl⟩ dX11_slipIn_15 rfl ?_
      rintro _ _ ⟨rfl, rfl⟩
      refine V.eSt (st' := [.int (bI (rng z 3))]) rfl ?_
      refine r_if_eqB C (t := 25) dX11_slipIn_18 (by decide) (fun c18 => ?_) (fun c18 => ?_)
      · skip
        refine r_iconst C (v := nI 0) dX11_slipIn_25 (by decide) ?_
        refine V.eSt (st' := [.int (bI false)]) rfl ?_
        refine V.ei (y := bI (rng x 6 && rng y 24 && rng z 3)) (congrArg bI (by simp [c4, c11, c18])) ?_
        exact jn26
      · skip
        refine r_iconst C (v := nI 1) dX11_slipIn_21 (by decide) ?_
        refine r_goto C (t := 26) dX11_slipIn_22 (by decide) ?_
        refine V.eSt (st' := [.int (bI true)]) rfl ?_
        refine V.ei (y := bI (rng x 6 && rng y 24 && rng z 3)) (congrArg bI (by simp [c4, c11, c18])) ?_
        exact jn26
set_option maxHeartbeats 1000000 in
set_option maxRecDepth 100000 in
theorem c_X11_takenBy (l : Launch) (hfl : l.flags = flags0) (G : gW) (M : Mem) (τ : Mu) (hw : WF τ) (α : Nat → Nat) (hws : WS τ G α M) (hwt : WT τ α M) (hwb : WB τ α M) (had : ∀ p, p < 6 → AD τ p) (x y : Int32) : CX l yX11_takenBy cX11_takenBy 4 (some .long) 7 1 6 188 G M [.ref (α 0), .int x, .int y] (fun v M' => PC τ G α M (cd1 (rng x (un τ 44 44) && rng y 24)) (τ) (some (.long (hadL τ (un τ 38 x.toNatClampNeg) (y.toNatClampNeg + 1) x.toNatClampNeg))) v M') (fun E M' => XP M (cd1 (rng x (un τ 44 44) && rng y 24)) ["java/lang/IndexOutOfBoundsException"] E M') := by
  refine CX.of hfl rfl (Nat.le_of_ble_eq_true rfl) ?_
  intro pp ee ss mm ar bw mt cd C hgX hr hno
  have hx := hws.2.1
  have hwx := hwt.2.2.2.1
  have h9 := hw.nc.2
  have h13 := hw.sh.2
  have h17 := hw.nl.2
  have h26 := hw.ne.2
  have h44 := hw.ng.2
  have h46 := hw.op.2
  have h51 := hw.np.2
  refine V.eLo (lo' := [(0, .ref (α 0)), (1, .int x), (2, .int y)]) rfl ?_
  have jn29 : V pp l ee ({ frames := 7, cells := 1, slots := 6, locals := 188 } : Room) ss mm ar bw mt cd G (vx_MQ bw (Ke G (fun v M' => PC τ G α M (cd1 (rng x (un τ 44 44) && rng y 24)) (τ) (some (.long (hadL τ (un τ 38 x.toNatClampNeg) (y.toNatClampNeg + 1) x.toNatClampNeg))) v M')) (Kx G (fun E M' => XP M (cd1 (rng x (un τ 44 44) && rng y 24)) ["java/lang/IndexOutOfBoundsException"] E M')) ar ss 1 6 (gA G)) 4 M 0 0 29 [(0, .ref (α 0)), (1, .int x), (2, .int y)] [.int (bI (rng x (un τ 44 44) && rng y 24))] := by
    skip
    refine r_xS C hgX hno ml_X11_55 st_X11_needThere (c_X11_needThere l hfl G M (rng x (un τ 44 44) && rng y 24)) rfl (Nat.le_of_ble_eq_true rfl) ⟨Nat.le_of_ble_eq_true rfl, Nat.le_of_ble_eq_true rfl⟩ ⟨Nat.le_of_ble_eq_true rfl, Nat.le_of_ble_eq_true rfl⟩ dX11_takenBy_29 rfl (fun E_ M_ h_ => x_1 h_) ⟨Nat.le_of_ble_eq_true rfl, Nat.le_of_ble_eq_true rfl⟩ ?_
    rintro _ _ ⟨rfl, rfl, hq1⟩
    have hq := hq1
    obtain ⟨hqa, hqb⟩ := Bool.and_eq_true_iff.mp hq
    obtain ⟨c, hc, e_x⟩ := rng_t hqa
    obtain ⟨d, hd, e_y⟩ := rng_t hqb
    have hga := hws.2.2.2.2.2.1 c hc
    have hgf := hwt.2.2.2.2.2.1 c hc
    have hp0 : un τ 38 c < 6 := by have := (hw.gw c hc).2; omega
    refine V.eLo (lo' := [(0, .ref (α 0)), (1, .int (nI c)), (2, .int (nI d))]) (by rw [e_x, e_y]) ?_
    refine r_aload_n C 0 dX11_takenBy_32 rfl rfl ?_
    refine r_getR C (b := (α 27)) fl_X11_35 rfl (hx.k 0 14 rfl) (hx.r 0 4 27 rfl) dX11_takenBy_33 ?_
    refine r_iload_n C 1 dX11_takenBy_36 rfl rfl ?_
    obtain ⟨d_, hd_, hkd_, hsn_, hn_, hri_⟩ := (hws.2.2.2.2.2.2.2.2.2.1).get (i := c) (by omega)
    refine r_callV C hgX (ci := 2) ml_X11_107 im_Jx4a65c_get_915e3 se_Jx4a65c_get_915e3 rfl rfl (hx.k 27 3 rfl) (c_Jx4a65c_get_915e3 l hfl G M (α 27) d_ _ c (aO α c 0) (un τ 44 44) (hws.2.2.2.2.2.2.2.2.2.1).1 hd_ (hws.2.2.2.2.2.2.2.2.2.1).2.1 hkd_ rfl hn_ hsn_ (by omega) hri_) rfl (Nat.le_of_ble_eq_true rfl) ⟨Nat.le_of_ble_eq_true rfl, Nat.le_of_ble_eq_true rfl⟩ ⟨Nat.le_of_ble_eq_true rfl, Nat.le_of_ble_eq_true rfl⟩ dX11_takenBy_37 rfl ?_
    rintro _ _ ⟨rfl, rfl⟩
    refine V.eSt (st' := [.ref (aO α c 0)]) rfl ?_
    refine r_cast C (ci := 7) rfl cl_X11_282 ((hga.k 0 8 rfl)) dX11_takenBy_40 ?_
    refine r_astore_n C (lo' := [(3, .ref (aO α c 0)), (0, .ref (α 0)), (1, .int (nI c)), (2, .int (nI d))]) dX11_takenBy_43 rfl (by decide) rfl ?_
    refine r_aload_n C 1 dX11_takenBy_44 rfl rfl ?_
    refine r_aload_n C 0 dX11_takenBy_45 rfl rfl ?_
    refine r_getI C fl_X11_291 rfl (hga.k 0 8 rfl) dX11_takenBy_46 ?_
    refine V.ei (y := nI (un τ 38 c)) (hgf.1) ?_
    refine r_callV C hgX (ci := 13) ml_X11_144 im_X11_bookOf se_X11_bookOf rfl rfl (hx.k 0 14 rfl) (c_X11_bookOf l hfl G M τ hw α hws hwt hwb had (un τ 38 c) hp0) rfl (Nat.le_of_ble_eq_true rfl) ⟨Nat.le_of_ble_eq_true rfl, Nat.le_of_ble_eq_true rfl⟩ ⟨Nat.le_of_ble_eq_true rfl, Nat.le_of_ble_eq_true rfl⟩ dX11_takenBy_49 rfl ?_
    rintro _ My2 ⟨rfl, hbx2, hws2, hwt2, hwb2, hbz2⟩
    refine V.eSt (st' := [.ref (bO α (un τ 38 c) 0)]) rfl ?_
    have hbf := hwb2.2 _ hp0 hbz2
    have hbk := hws2.bk hp0
    have hga := hbx2.1.blk hga
    refine r_pop C dX11_takenBy_52 rfl ?_
    refine r_aload_n C 0 dX11_takenBy_53 rfl rfl ?_
    refine r_getR C (b := (aO α c 1)) fl_X11_292 rfl (hga.k 0 8 rfl) (hga.r 0 6 1 rfl) dX11_takenBy_54 ?_
    refine r_iload_n C 3 dX11_takenBy_57 rfl rfl ?_
    refine r_laloadN C (hga.k 1 21 rfl) (hga.n 1 24 rfl) (by omega) (by omega) dX11_takenBy_58 ?_
    refine V.el (y := hadL τ (un τ 38 c) (d + 1) c) (hbf.2.1 c hc rfl d hd) ?_
    refine V.xret ?_
    exact r_lret C hr (⟨k_1 hq, by rw [e_x, e_y, nI_clamp (n := c) (by omega), nI_clamp (n := d) (by omega)], ⟨α, ⟨hws2, hwt2, hwb2⟩, rfl, CF.bx hp0 hbx2, fun _ _ hz_ => hz_⟩⟩) (by first | exact Nat.zero_le _ | decide) (by first | exact Nat.zero_le _ | decide) dX11_takenBy_59
  refine r_iload_n C 1 dX11_takenBy_0 rfl rfl ?_
  refine r_iconst C (v := nI 0) dX11_takenBy_1 (by decide) ?_
  refine r_aload_n C 0 dX11_takenBy_2 rfl rfl ?_
  refine r_getR C (b := (α 27)) fl_X11_35 rfl (hx.k 0 14 rfl) (hx.r 0 4 27 rfl) dX11_takenBy_3 ?_
  refine r_callV C hgX (ci := 2) ml_X11_67 im_Jx4a65c_size_8abf5 se_Jx4a65c_size_8abf5 rfl rfl (hx.k 27 3 rfl) (c_Jx4a65c_size_8abf5 l hfl G M (α 27) (un τ 44 44) hws.2.2.2.2.2.2.2.2.2.1.1 hws.2.2.2.2.2.2.2.2.2.1.2.1) rfl (Nat.le_of_ble_eq_true rfl) ⟨Nat.le_of_ble_eq_true rfl, Nat.le_of_ble_eq_true rfl⟩ ⟨Nat.le_of_ble_eq_true rfl, Nat.le_of_ble_eq_true rfl⟩ dX11_takenBy_6 rfl ?_
  rintro _ _ ⟨rfl, rfl⟩
  refine V.eSt (st' := [.int (nI (un τ 44 44)), .int (nI 0), .int x]) rfl ?_
  refine r_iconst C (v := nI 1) dX11_takenBy_9 (by decide) ?_
  refine r_isub C dX11_takenBy_10 ?_
  refine r_callS C hgX ml_X11_59 st_X11_isWithin (c_X11_isWithin l hfl G M x (nI 0) ((nI (un τ 44 44)) - (nI 1))) rfl (Nat.le_of_ble_eq_true rfl) ⟨Nat.le_of_ble_eq_true rfl, Nat.le_of_ble_eq_true rfl⟩ ⟨Nat.le_of_ble_eq_true rfl, Nat.le_of_ble_eq_true rfl⟩ dX11_takenBy_11 rfl ?_
  rintro _ _ ⟨rfl, rfl⟩
  refine V.eSt (st' := [.int (bI (inB x (nI 0).toInt64 ((nI (un τ 44 44)) - (nI 1)).toInt64))]) rfl ?_
  refine V.ei (y := bI (rng x (un τ 44 44))) (congrArg bI (rng_ct x _ (by omega))) ?_
  refine r_if_eqB C (t := 28) dX11_takenBy_14 (by decide) (fun c14 => ?_) (fun c14 => ?_)
  · skip
    refine r_iconst C (v := nI 0) dX11_takenBy_28 (by decide) ?_
    refine V.eSt (st' := [.int (bI false)]) rfl ?_
    refine V.ei (y := bI (rng x (un τ 44 44) && rng y 24)) (congrArg bI (by simp [c14])) ?_
    exact jn29
  · skip
    refine r_iload_n C 2 dX11_takenBy_17 rfl rfl ?_
    refine r_callS C hgX ml_X11_141 st_X11_isMonth (c_X11_isMonth l hfl G M y) rfl (Nat.le_of_ble_eq_true rfl) ⟨Nat.le_of_ble_eq_true rfl, Nat.le_of_ble_eq_true rfl⟩ ⟨Nat.le_of_ble_eq_true rfl, Nat.le_of_ble_eq_true rfl⟩ dX11_takenBy_18 rfl ?_
    rintro _ _ ⟨rfl, rfl⟩
    refine V.eSt (st' := [.int (bI (rng y 24))]) rfl ?_
    refine r_if_eqB C (t := 28) dX11_takenBy_21 (by decide) (fun c21 => ?_) (fun c21 => ?_)
    · skip
      refine r_iconst C (v := nI 0) dX11_takenBy_28 (by decide) ?_
      refine V.eSt (st' := [.int (bI false)]) rfl ?_
      refine V.ei (y := bI (rng x (un τ 44 44) && rng y 24)) (congrArg bI (by simp [c14, c21])) ?_
      exact jn29
    · skip
      refine r_iconst C (v := nI 1) dX11_takenBy_24 (by decide) ?_
      refine r_goto C (t := 29) dX11_takenBy_25 (by decide) ?_
      refine V.eSt (st' := [.int (bI true)]) rfl ?_
      refine V.ei (y := bI (rng x (un τ 44 44) && rng y 24)) (congrArg bI (by simp [c14, c21])) ?_
      exact jn29

