theorem BX.rf {τ : Mu} {α : Nat → Nat} {p : Nat} {M : Mem} : BX τ α p M M := ⟨frm.rf _ _, fun _ _ _ _ => rfl, fun _ _ _ _ => rfl⟩
theorem BX.li {τ : Mu} {G : gW} {α : Nat → Nat} {p r o ci s : Nat} {e : Nat → Nat} {M M1 : Mem} (h : BX τ α p M M1) (hi : INJ τ α) (hp : p < 6) (hr : r < 6) (ho : 1 ≤ o ∧ o < 4) (l : LI G M ci (hO α r o) s e) : LI G M1 ci (hO α r o) s e :=
  l.fr h.1 (BoA.no hi hp (lv_h hr (by omega)) (nbc_s (by omega) (by omega) (by omega) (by omega)))
theorem sc_of {τ : Mu} {α : Nat → Nat} {p nc nl : Nat} {cn ln : Nat → Nat} {M M1 : Mem} (hi : INJ τ α) (hw : WF τ) (h1 : EnN (fun c => un τ 0 c = p) (un τ 9 9) nc cn) (h2 : EnL τ p nl ln) (g : frm (LaA nl (fun i => lO α (ln i))) M M1) (wb : WB τ α M) : ∀ i, i < nc → mI M1 (cO α (cn i) 0) 11 = 0 → CoW τ (cn i) (mI M1) (mL M1) (cO α (cn i)) := by
  have h9 := hw.nc.2
  intro i a z
  have n : ∀ o, o < 10 → ¬ LaA nl (fun i => lO α (ln i)) (cO α (cn i) o) := fun o ho => by
    rintro ⟨j, b, e⟩
    exact hi.ne (lv_c (h1.1 i a).1 ho) (lv_l (h2.1 j b).1) (by have := (h1.1 i a).1; omega) e
  exact (wb.1 _ (h1.1 i a).1 (by rw [← g.i (n 0 (by decide))]; exact z)).fr g (n 7 (by decide)) (n 8 (by decide))
set_option maxHeartbeats 1000000 in
set_option maxRecDepth 100000 in
theorem c_X11_bookOf (l : Launch) (hfl : l.flags = flags0) (G : gW) (M : Mem) (τ : Mu) (hw : WF τ) (α : Nat → Nat) (hws : WS τ G α M) (hwt : WT τ α M) (hwb : WB τ α M) (had : ∀ p, p < 6 → AD τ p) (p : Nat) (hp : p < 6) : CT l yX11_bookOf cX11_bookOf 5 (some (.object "Taxmaze$Book")) 6 0 0 164 G M [.ref (α 0), .int (nI p)] (fun v M' => v = some (.ref (bO α p 0)) ∧ BX τ α p M M' ∧ WS τ G α M' ∧ WT τ α M' ∧ WB τ α M' ∧ mI M' (bO α p 0) 0 = 0) := by
  refine CT.of hfl rfl (Nat.le_of_ble_eq_true rfl) ?_
  intro pp ee ss mm ar bw mt cd C hgX hr hini
  obtain ⟨nc, cn, nl, ln, ng, gn, pw1, pw2, pw3, pw4, pw5, pw6⟩ := hws.2.2.2.2.2.2.2.2.2.2.2.1 p hp
  have hx := hws.2.1
  have hbp := (hws.2.2.1 p hp).1
  have hbb := hws.bk hp
  have hwx := hwt.2.2.2.1
  refine V.eLo (lo' := [(0, .ref (α 0)), (1, .int (nI p))]) rfl ?_
  refine r_aload_n C 0 dX11_bookOf_0 rfl rfl ?_
  refine r_getR C (b := (α 2)) fl_X11_18 rfl (hx.k 0 14 rfl) (hx.r 0 1 2 rfl) dX11_bookOf_1 ?_
  refine r_iload_n C 1 dX11_bookOf_4 rfl rfl ?_
  refine r_aaloadN C (b := (hO α p 0)) 1 (by decide) (hx.k 2 24 rfl) (hx.n 2 6 rfl) (by omega) (by omega) (hws.2.2.1 p hp).2 dX11_bookOf_5 ?_
  refine r_astore_n C (lo' := [(2, .ref (hO α p 0)), (0, .ref (α 0)), (1, .int (nI p))]) dX11_bookOf_6 rfl (by decide) rfl ?_
  refine r_aload_n C 0 dX11_bookOf_7 rfl rfl ?_
  refine r_getR C (b := (bO α p 0)) fl_X11_94 rfl (hbp.k 0 11 rfl) (hbp.r 0 10 15 rfl) dX11_bookOf_8 ?_
  refine r_astore_n C (lo' := [(3, .ref (bO α p 0)), (2, .ref (hO α p 0)), (0, .ref (α 0)), (1, .int (nI p))]) dX11_bookOf_11 rfl (by decide) rfl ?_
  refine r_aload_n C 0 dX11_bookOf_12 rfl rfl ?_
  refine r_getI C fl_X11_98 rfl (hbb.k 0 4 rfl) dX11_bookOf_13 ?_
  refine r_if_eq C (t := 91) dX11_bookOf_16 (by decide) (fun c16 => ?_) (fun c16 => ?_)
  · skip
    refine r_aload_n C 0 dX11_bookOf_91 rfl rfl ?_
    exact r_aret C hr (Or.inl ⟨_, rfl⟩) (⟨rfl, BX.rf, hws, hwt, hwb, c16⟩) (by first | exact Nat.zero_le _ | decide) (by first | exact Nat.zero_le _ | decide) dX11_bookOf_92
  · skip
    refine r_aload_n C 1 dX11_bookOf_19 rfl rfl ?_
    refine r_sipush C (v := nI 720) dX11_bookOf_20 (by decide) ?_
    refine r_aload_n C 2 dX11_bookOf_23 rfl rfl ?_
    refine r_getI C fl_X11_152 rfl (hx.k 0 14 rfl) dX11_bookOf_24 ?_
    refine V.ei (y := nI (un τ 18 18)) (hwx.2.2.1) ?_
    refine r_aload_n C 2 dX11_bookOf_27 rfl rfl ?_
    refine r_getI C fl_X11_155 rfl (hx.k 0 14 rfl) dX11_bookOf_28 ?_
    refine V.ei (y := nI (un τ 19 19)) (hwx.2.2.2.1) ?_
    refine r_aload_n C 2 dX11_bookOf_31 rfl rfl ?_
    refine r_getI C fl_X11_158 rfl (hx.k 0 14 rfl) dX11_bookOf_32 ?_
    refine V.ei (y := nI (un τ 20 20)) (hwx.2.2.2.2.1) ?_
    refine r_callV C hgX (ci := 10) ml_X11_176 im_X8_takeLeave se_X8_takeLeave rfl rfl (hbp.k 0 11 rfl) (c_X8_takeLeave l hfl G M (hO α p) hbp τ hw p nc cn (fun i => cO α (cn i)) (pc_of hws hwt pw1 pw4) nl ln (fun i => lO α (ln i)) (pl_of hws hwt pw2 pw5) (dj_of hws.1 hw hp pw1 pw2) 720 (by decide)) rfl (Nat.le_of_ble_eq_true rfl) ⟨Nat.le_of_ble_eq_true rfl, Nat.le_of_ble_eq_true rfl⟩ ⟨Nat.le_of_ble_eq_true rfl, Nat.le_of_ble_eq_true rfl⟩ dX11_bookOf_35 rfl ?_
    rintro _ My3 ⟨hfm3, hlk3, hlt3, hlu3, x3, rfl, hxl3⟩
    refine V.eSt (st' := [.int x3]) rfl ?_
    have hx1 := BX.tk BX.rf hws.1 hw pw2 hfm3 hlk3
    have hwsa := hx1.ws hp hws
    have hwta := hx1.wt hw hws.1 hp hwt
    have hx := hwsa.2.1
    have hbp := (hwsa.2.2.1 p hp).1
    have hbb := hwsa.bk hp
    have hwx := hwta.2.2.2.1
    have hlta : ∀ i, i < nl → mI My3 (lO α (ln i)) 2 = nI (ltN τ (ln i)) := fun i hi => hlt3 i hi (Nat.lt_of_le_of_lt (hw.ld _ (pw2.1 i hi).1).1.2 (by decide))
    have hsca := sc_of hws.1 hw pw1 pw2 hfm3 hwb
    refine r_pop C dX11_bookOf_38 rfl ?_
    refine r_aload_n C 1 dX11_bookOf_39 rfl rfl ?_
    refine r_callV C hgX (ci := 10) ml_X11_362 im_X8_refreshContracts se_X8_refreshContracts rfl rfl (hbp.k 0 11 rfl) (c_X8_refreshContracts l hfl G My3 (hO α p) hbp τ hw p nc cn (fun i => cO α (cn i)) (pc_of hwsa hwta pw1 (hx1.li hws.1 hp hp (by decide) pw4)) nl ln (fun i => lO α (ln i)) (pl_of hwsa hwta pw2 (hx1.li hws.1 hp hp (by decide) pw5)) (dj_of hws.1 hw hp pw1 pw2) (dx_of hws.1 pw1) (dh_of hws.1 hw hp pw1 pw2) (lc_of hwsa pw1 pw2 hw) hlta hsca) rfl (Nat.le_of_ble_eq_true rfl) ⟨Nat.le_of_ble_eq_true rfl, Nat.le_of_ble_eq_true rfl⟩ ⟨Nat.le_of_ble_eq_true rfl, Nat.le_of_ble_eq_true rfl⟩ dX11_bookOf_40 rfl ?_
    rintro _ My4 ⟨rfl, hcd4⟩
    have hx2 := hx1.co hws.1 hw pw1 hcd4
    have hwsb := hx2.ws hp hws
    have hwtb := hx2.wt hw hws.1 hp hwt
    have hx := hwsb.2.1
    have hbp := (hwsb.2.2.1 p hp).1
    have hbb := hwsb.bk hp
    have hwx := hwtb.2.2.2.1
    have hclb := cl_of hws.1 hw pw1 pw2 hlta hcd4
    refine r_iconst C (v := nI 0) dX11_bookOf_43 (by decide) ?_
    refine r_istore C (lo' := [(4, .int (nI 0)), (3, .ref (bO α p 0)), (2, .ref (hO α p 0)), (0, .ref (α 0)), (1, .int (nI p))]) dX11_bookOf_44 (by decide) rfl ?_
    have lp46 : ∀ (k46 : Nat) (M9 : Mem) (m : Nat) (hm : m ≤ 24) (hbx : BX τ α p M M9) (hcl : CLf τ p α M9) (hbr : BR τ p α M9 m), 25 - m < k46 → V pp l ee ({ frames := 6, cells := 0, slots := 0, locals := 164 } : Room) ss mm ar bw mt cd G (MQ bw (Ke G (fun v M' => v = some (.ref (bO α p 0)) ∧ BX τ α p M M' ∧ WS τ G α M' ∧ WT τ α M' ∧ WB τ α M' ∧ mI M' (bO α p 0) 0 = 0)) ar ss 0 0 (gA G)) 5 M9 0 0 46 [(0, .ref (α 0)), (1, .int (nI p)), (2, .ref (hO α p 0)), (3, .ref (bO α p 0)), (4, .int (nI m))] [] := by
      intro k46
      induction k46 with
      | zero => intro M9 m hm hbx hcl hbr hz46; exact absurd hz46 (Nat.not_lt_zero _)
      | succ k46 ih46 =>
        intro M9 m hm hbx hcl hbr hz46
        have hwsc := hbx.ws hp hws
        have hwtc := hbx.wt hw hws.1 hp hwt
        have hx := hwsc.2.1
        have hbp := (hwsc.2.2.1 p hp).1
        have hbb := hwsc.bk hp
        have hwx := hwtc.2.2.2.1
        refine r_iload C 4 dX11_bookOf_46 rfl ?_
        refine r_bipush C (v := nI 24) dX11_bookOf_48 (by decide) ?_
        refine r_icmp_geN C (t := 81) (by omega) (by omega) dX11_bookOf_50 (by decide) (fun c50 => ?_) (fun c50 => ?_)
        · skip
          have e24 : m = 24 := by omega
          subst e24
          refine r_aload_n C 3 dX11_bookOf_81 rfl rfl ?_
          refine r_aload_n C 2 dX11_bookOf_82 rfl rfl ?_
          refine r_callV C hgX (ci := 3) ml_X11_369 im_X0_share se_X0_share rfl rfl (hbb.k 0 4 rfl) (c_X0_share l hfl G M9 (bO α p) hbb (hO α p) hbp τ hw p ng gn (fun i => aO α (gn i)) (pg_of hwsc hwtc pw3 (hbx.li hws.1 hp hp (by decide) pw6)) (had p hp) (hwtc.2.1 p hp).2.2.2.2.1 (fun k hk => (hbr k hk).1.2.2.2) (sd_of hws.1 hw hp pw3) (si_of hws.1 pw3) (sf_of hws.1 hp pw3)) rfl (Nat.le_of_ble_eq_true rfl) ⟨Nat.le_of_ble_eq_true rfl, Nat.le_of_ble_eq_true rfl⟩ ⟨Nat.le_of_ble_eq_true rfl, Nat.le_of_ble_eq_true rfl⟩ dX11_bookOf_83 rfl ?_
          rintro _ My5 ⟨rfl, hsh5⟩
          have hxs := hbx.ba hw hws.1 hp (sh_ba pw3 hsh5.1)
          have hxF := hxs.ba hw hws.1 hp ((frm.rf (BA τ α p) My5).wi 0 (nI 0) BA.b0)
          have hbf := bf_of hws.1 hw hp hwsc pw3 hbr hcl hsh5
          have hwse := hxs.ws hp hws
          have hwte := hxs.wt hw hws.1 hp hwt
          have hx := hwse.2.1
          have hbp := (hwse.2.2.1 p hp).1
          have hbb := hwse.bk hp
          have hwx := hwte.2.2.2.1
          refine r_aload_n C 3 dX11_bookOf_86 rfl rfl ?_
          refine r_iconst C (v := nI 0) dX11_bookOf_87 (by decide) ?_
          refine r_putZ C fl_X11_98 (by decide) (hbb.k 0 4 rfl) dX11_bookOf_88 ?_
          refine r_aload_n C 3 dX11_bookOf_91 rfl rfl ?_
          exact r_aret C hr (Or.inl ⟨_, rfl⟩) (⟨rfl, hxF, hxF.ws hp hws, hxF.wt hw hws.1 hp hwt, WB.bx hxF hw hws.1 hp hwb hbf, wI_i⟩) (by first | exact Nat.zero_le _ | decide) (by first | exact Nat.zero_le _ | decide) dX11_bookOf_92
        · skip
          refine r_aload_n C 3 dX11_bookOf_53 rfl rfl ?_
          refine r_iload C 4 dX11_bookOf_54 rfl ?_
          refine r_aload_n C 2 dX11_bookOf_56 rfl rfl ?_
          refine r_aload_n C 0 dX11_bookOf_57 rfl rfl ?_
          refine r_getR C (b := (eO α 0)) fl_X11_31 rfl (hx.k 0 14 rfl) (hx.r 0 3 4 rfl) dX11_bookOf_58 ?_
          refine r_callV C hgX (ci := 3) ml_X11_365 im_X0_gather se_X0_gather rfl rfl (hbb.k 0 4 rfl) (c_X0_gather l hfl G M9 (bO α p) hbb (hO α p) hbp (eO α) hwsc.el τ hw p nc cn (fun i => cO α (cn i)) (pc_of hwsc hwtc pw1 (hbx.li hws.1 hp hp (by decide) pw4)) m hp (by omega) hwx.2.2.2.2.2.2 (hwtc.2.1 p hp).1 (fun q hq => (hwtc.2.1 p hp).2.2.2.1 q hq m (by omega)) (fun i hi => hcl.1 _ (pw1.1 i hi).1 (pw1.1 i hi).2) (gd_of hws.1 hw hp pw1) (fe_of hws.1 hp)) rfl (Nat.le_of_ble_eq_true rfl) ⟨Nat.le_of_ble_eq_true rfl, Nat.le_of_ble_eq_true rfl⟩ ⟨Nat.le_of_ble_eq_true rfl, Nat.le_of_ble_eq_true rfl⟩ dX11_bookOf_61 rfl ?_
          rintro _ My6 ⟨rfl, hgt6, hgr6, hho6, hgel6⟩
          have hx10 := hbx.ba hw hws.1 hp (gt_ba hgt6.1)
          have hwsd := hx10.ws hp hws
          have hwtd := hx10.wt hw hws.1 hp hwt
          have hx := hwsd.2.1
          have hbp := (hwsd.2.2.1 p hp).1
          have hbb := hwsd.bk hp
          have hwx := hwtd.2.2.2.1
          have hcld := hcl.ba hw hws.1 hp (gt_ba hgt6.1)
          have hgtD := hgt6
          have hgrD := hgr6
          have hhoD := hho6
          have hgelD := hgel6
          refine r_aload_n C 3 dX11_bookOf_64 rfl rfl ?_
          refine r_iload C 4 dX11_bookOf_65 rfl ?_
          refine r_aload_n C 2 dX11_bookOf_67 rfl rfl ?_
          refine r_aload_n C 0 dX11_bookOf_68 rfl rfl ?_
          refine r_getR C (b := (α 3)) fl_X11_24 rfl (hx.k 0 14 rfl) (hx.r 0 2 3 rfl) dX11_bookOf_69 ?_
          refine r_callV C hgX (ci := 3) ml_X11_278 im_X0_reckon se_X0_reckon rfl rfl (hbb.k 0 4 rfl) (c_X0_reckon l hfl G My6 (bO α p) hbb τ hw p m hp (by omega) (hO α p) (α 3) (gO α) ⟨hx.k 3 25 rfl, hx.n 3 3 rfl, fun q hq => (hwsd.2.2.2.1 q hq).2⟩ (fun Mx gx => ⟨pe_of ((hx10.ba hw hws.1 hp (bk_ba gx)).ws hp hws) ((hx10.ba hw hws.1 hp (bk_ba gx)).wt hw hws.1 hp hwt) hw hp, fun q hq => pq_of ((hx10.ba hw hws.1 hp (bk_ba gx)).ws hp hws) ((hx10.ba hw hws.1 hp (bk_ba gx)).wt hw hws.1 hp hwt) hw hq⟩) hgrD hhoD (hbr.pr hgtD)) rfl (Nat.le_of_ble_eq_true rfl) ⟨Nat.le_of_ble_eq_true rfl, Nat.le_of_ble_eq_true rfl⟩ ⟨Nat.le_of_ble_eq_true rfl, Nat.le_of_ble_eq_true rfl⟩ dX11_bookOf_72 rfl ?_
          rintro _ My7 ⟨rfl, hfm7, hmi7, hbr7, hok7, hox7⟩
          have hx11 := hx10.ba hw hws.1 hp (bk_ba hfm7)
          have hcl11 := hcld.ba hw hws.1 hp (bk_ba hfm7)
          have hbr11 := hbr.st hgtD hhoD hgelD hmi7 hbr7 hok7 hox7
          refine r_iinc C (v := nI (m + 1)) (lo' := [(4, .int (nI (m + 1))), (0, .ref (α 0)), (1, .int (nI p)), (2, .ref (hO α p 0)), (3, .ref (bO α p 0))]) 4 dX11_bookOf_75 rfl (nI_addI m 1) (by decide) rfl ?_
          refine r_goto C (t := 46) dX11_bookOf_78 (by decide) ?_
          refine V.sub [1, 2, 3, 4, 0] (lo' := [(0, .ref (α 0)), (1, .int (nI p)), (2, .ref (hO α p 0)), (3, .ref (bO α p 0)), (4, .int (nI (m + 1)))]) rfl ?_
          exact ih46 My7 (m + 1) (by omega) hx11 hcl11 hbr11 (by omega)
    refine V.sub [3, 4, 2, 1, 0] (lo' := [(0, .ref (α 0)), (1, .int (nI p)), (2, .ref (hO α p 0)), (3, .ref (bO α p 0)), (4, .int (nI 0))]) rfl ?_
    exact lp46 _ My4 0 (Nat.zero_le _) hx2 hclb (fun k hk => absurd hk (Nat.not_lt_zero _)) (Nat.lt_succ_self _)

