/-! leave -/
set_option maxHeartbeats 1000000 in
set_option maxRecDepth 100000 in
theorem c_X11_leave (l : Launch) (hfl : l.flags = flags0) (G : gW) (M : Mem) (τ : Mu) (hw : WF τ) (α : Nat → Nat) (hws : WS τ G α M) (hwt : WT τ α M) (hwb : WB τ α M) (had : ∀ p, p < 6 → AD τ p) (x y : Int32) : CX l yX11_leave cX11_leave 6 (some .boolean) 7 4 315 236 G M [.ref (α 0), .int x, .int y] (fun v M' => PC τ G α M (cd2 (isOfB τ x y) (decide (un τ 17 17 ≠ 30))) ((sI (sI (sI τ 14 (un τ 17 17) x) 15 (un τ 17 17) y) 17 17 (nI (un τ 17 17 + 1)))) (some (.int (bI (decide (ltN (sI (sI (sI τ 14 (un τ 17 17) x) 15 (un τ 17 17) y) 17 17 (nI (un τ 17 17 + 1))) (un τ 17 17) = 1))))) v M') (fun E M' => XP M (cd2 (isOfB τ x y) (decide (un τ 17 17 ≠ 30))) ["java/lang/IndexOutOfBoundsException", "java/lang/IllegalStateException"] E M') := by
  refine CX.of hfl rfl (Nat.le_of_ble_eq_true rfl) ?_
  intro pp ee ss mm ar bw mt cd C hgX hr hno
  have hx := hws.2.1
  have hwx := hwt.2.2.2.1
  have h9 := hw.nc.2
  have h13 := hw.sh.2
  have h17 := hw.nl.2
  have h26 := hw.ne.2
  have h44 := hw.ng.2
  have h46 := hw.op.2
  have h51 := hw.np.2
  refine V.eLo (lo' := [(0, .ref (α 0)), (1, .int x), (2, .int y)]) rfl ?_
  have jn31 : V pp l ee ({ frames := 7, cells := 4, slots := 315, locals := 236 } : Room) ss mm ar bw mt cd G (vx_MQ bw (Ke G (fun v M' => PC τ G α M (cd2 (isOfB τ x y) (decide (un τ 17 17 ≠ 30))) ((sI (sI (sI τ 14 (un τ 17 17) x) 15 (un τ 17 17) y) 17 17 (nI (un τ 17 17 + 1)))) (some (.int (bI (decide (ltN (sI (sI (sI τ 14 (un τ 17 17) x) 15 (un τ 17 17) y) 17 17 (nI (un τ 17 17 + 1))) (un τ 17 17) = 1))))) v M')) (Kx G (fun E M' => XP M (cd2 (isOfB τ x y) (decide (un τ 17 17 ≠ 30))) ["java/lang/IndexOutOfBoundsException", "java/lang/IllegalStateException"] E M')) ar ss 4 315 (gA G)) 6 M 0 0 31 [(0, .ref (α 0)), (1, .int x), (2, .int y)] [.int (bI (isOfB τ x y))] := by
    skip
    refine r_xS C hgX hno ml_X11_55 st_X11_needThere (c_X11_needThere l hfl G M (isOfB τ x y)) rfl (Nat.le_of_ble_eq_true rfl) ⟨Nat.le_of_ble_eq_true rfl, Nat.le_of_ble_eq_true rfl⟩ ⟨Nat.le_of_ble_eq_true rfl, Nat.le_of_ble_eq_true rfl⟩ dX11_leave_31 rfl (fun E_ M_ h_ => x_2a h_) ⟨Nat.le_of_ble_eq_true rfl, Nat.le_of_ble_eq_true rfl⟩ ?_
    rintro _ _ ⟨rfl, rfl, hq1⟩
    have hq := hq1
    have jn48 : V pp l ee ({ frames := 7, cells := 4, slots := 315, locals := 236 } : Room) ss mm ar bw mt cd G (vx_MQ bw (Ke G (fun v M' => PC τ G α M (cd2 (isOfB τ x y) (decide (un τ 17 17 ≠ 30))) ((sI (sI (sI τ 14 (un τ 17 17) x) 15 (un τ 17 17) y) 17 17 (nI (un τ 17 17 + 1)))) (some (.int (bI (decide (ltN (sI (sI (sI τ 14 (un τ 17 17) x) 15 (un τ 17 17) y) 17 17 (nI (un τ 17 17 + 1))) (un τ 17 17) = 1))))) v M')) (Kx G (fun E M' => XP M (cd2 (isOfB τ x y) (decide (un τ 17 17 ≠ 30))) ["java/lang/IndexOutOfBoundsException", "java/lang/IllegalStateException"] E M')) ar ss 4 315 (gA G)) 6 M 1 6 48 [(0, .ref (α 0)), (1, .int x), (2, .int y)] [.int (bI (decide (un τ 17 17 ≠ 30)))] := by
      skip
      refine r_xS C hgX hno ml_X11_71 st_X11_needAllowed (c_X11_needAllowed l hfl G M (decide (un τ 17 17 ≠ 30))) rfl (Nat.le_of_ble_eq_true rfl) ⟨Nat.le_of_ble_eq_true rfl, Nat.le_of_ble_eq_true rfl⟩ ⟨Nat.le_of_ble_eq_true rfl, Nat.le_of_ble_eq_true rfl⟩ dX11_leave_48 rfl (fun E_ M_ h_ => x_2b hq h_) ⟨Nat.le_of_ble_eq_true rfl, Nat.le_of_ble_eq_true rfl⟩ ?_
      rintro _ _ ⟨rfl, rfl, hq2⟩
      have hq2 := hq2
      have hn30 : un τ 17 17 ≠ 30 := of_decide_eq_true hq2
      obtain ⟨c, d, hc, hd1, hd2, e_x, e_y⟩ := isOf_t hw hq
      have hct := (hw.ct c hc).2
      have hco := hws.2.2.2.2.1 c hc
      have hcf := (hwt.1 c hc).1
      have hp0 : un τ 0 c < 6 := by have := (hw.cw c hc).2; omega
      obtain ⟨sz, el, ix, hlw⟩ := hws.ls
      obtain ⟨p, hpe⟩ : ∃ p, p = un τ 0 c := ⟨_, rfl⟩
      have hp : p < 6 := by omega
      refine V.eLo (lo' := [(0, .ref (α 0)), (1, .int (nI c)), (2, .int (nI d))]) (by rw [e_x, e_y]) ?_
      refine r_aload_n C 0 dX11_leave_51 rfl rfl ?_
      refine r_getR C (b := (α 1)) fl_X11_10 rfl (hx.k 0 14 rfl) (hx.r 0 0 1 rfl) dX11_leave_52 ?_
      refine r_iload_n C 1 dX11_leave_55 rfl rfl ?_
      obtain ⟨d_, hd_, hkd_, hsn_, hn_, hri_⟩ := (hws.2.2.2.2.2.2.2.2.1).get (i := c) (by omega)
      refine r_callV C hgX (ci := 2) ml_X11_107 im_Jx4a65c_get_915e3 se_Jx4a65c_get_915e3 rfl rfl (hx.k 1 3 rfl) (c_Jx4a65c_get_915e3 l hfl G M (α 1) d_ _ c (cO α c 0) (un τ 9 9) (hws.2.2.2.2.2.2.2.2.1).1 hd_ (hws.2.2.2.2.2.2.2.2.1).2.1 hkd_ rfl hn_ hsn_ (by omega) hri_) rfl (Nat.le_of_ble_eq_true rfl) ⟨Nat.le_of_ble_eq_true rfl, Nat.le_of_ble_eq_true rfl⟩ ⟨Nat.le_of_ble_eq_true rfl, Nat.le_of_ble_eq_true rfl⟩ dX11_leave_56 rfl ?_
      rintro _ _ ⟨rfl, rfl⟩
      refine V.eSt (st' := [.ref (cO α c 0)]) rfl ?_
      refine r_cast C (ci := 5) rfl cl_X11_74 ((hco.k 0 6 rfl)) dX11_leave_59 ?_
      refine r_astore_n C (lo' := [(3, .ref (cO α c 0)), (0, .ref (α 0)), (1, .int (nI c)), (2, .int (nI d))]) dX11_leave_62 rfl (by decide) rfl ?_
      refine r_aload_n C 1 dX11_leave_63 rfl rfl ?_
      refine r_getR C (b := (α 2)) fl_X11_18 rfl (hx.k 0 14 rfl) (hx.r 0 1 2 rfl) dX11_leave_64 ?_
      refine r_aload_n C 0 dX11_leave_67 rfl rfl ?_
      refine r_getI C fl_X11_115 rfl (hco.k 0 6 rfl) dX11_leave_68 ?_
      refine V.ei (y := nI (un τ 0 c)) (hcf.1) ?_
      refine V.ei (y := nI p) (congrArg nI hpe.symm) ?_
      refine r_aaloadN C (b := (hO α p 0)) 1 (by decide) (hx.k 2 24 rfl) (hx.n 2 6 rfl) (by omega) (by omega) (hws.2.2.1 p (by omega)).2 dX11_leave_71 ?_
      refine r_astore C (lo' := [(4, .ref (hO α p 0)), (3, .ref (cO α c 0)), (0, .ref (α 0)), (1, .int (nI c)), (2, .int (nI d))]) dX11_leave_72 (by decide) rfl ?_
      refine V.mark C (fun zz hgz hz => ?_)
      refine r_new C (q := zz) nl_X11_167 (hgz) (hz _ (Nat.le_refl _)) (va_up_self _ _ _) (Nat.le_of_ble_eq_true rfl) (Nat.le_of_ble_eq_true rfl) dX11_leave_74 ?_
      refine r_dup C dX11_leave_77 rfl ?_
      refine r_aload_n C 1 dX11_leave_78 rfl rfl ?_
      refine r_iload_n C 4 dX11_leave_79 rfl rfl ?_
      refine r_callI C hgX ml_X11_169 im_X6_init rfl (c_X6_init l hfl G (wMk (mMk M zz) zz 9 0) zz (cO α c 0) d (va_up_self _ _ _)) rfl (Nat.le_of_ble_eq_true rfl) ⟨Nat.le_of_ble_eq_true rfl, Nat.le_of_ble_eq_true rfl⟩ ⟨Nat.le_of_ble_eq_true rfl, Nat.le_of_ble_eq_true rfl⟩ dX11_leave_80 rfl ?_
      rintro _ My5 ⟨rfl, hMe5⟩
      have hk02 : ∀ A B, KP A B M My5 := fun A B => by rw [hMe5]; exact KP.le hz
      have hlz2 : LZ G α My5 sz el := hlw.1.kp (hk02 (fun _ => False) (fun _ => False)) (fun _ _ h => h) (fun _ _ h => h)
      have hX2 := hws.xk (hk02 (fun _ => False) (fun _ => False)) (fun _ _ _ h => h)
      have hx := hX2.1
      have hbp := (hX2.2 p hp).1
      have hz2 : mK My5 zz = 9 ∧ mI My5 zz 1 = nI d := by rw [hMe5]; exact ⟨va_up_self _ _ _, up2_same _ _ _ _⟩
      have hL2 : LI G My5 8 (hO α p 2) (sz (29 + 57 * p + 2)) (el (29 + 57 * p + 2)) := by have h := hlz2.1 _ (lc_p hp (show 1 ≤ 2 by decide) (by decide)); rw [lsC_p hp (by decide) (by decide)] at h; exact h
      obtain ⟨hEG, helg⟩ := (hlw.2.2.2.2 p hp).2.1
      have hszp : sz (29 + 57 * p + 2) ≤ 30 := hEG.le hw
      have hrk : ∀ i, i < sz (29 + 57 * p + 2) → mI My5 (el (29 + 57 * p + 2) i) 1 = nI (un τ 15 (ix (29 + 57 * p + 2) i)) ∧ un τ 15 (ix (29 + 57 * p + 2) i) < 2 ^ 30 := fun i hi => by
              have h1 := (hEG.1 i hi).1
              have g := hwt.2.2.2.2.1 _ h1
              have b := (hw.ld _ h1).1.2
              rw [helg]
              exact ⟨(congrFun ((hk02 (fun _ => False) (fun _ => False) _ (hws.kn (lv_l h1))).2.2.1 (fun h => h)).1 1).trans g, by omega⟩
      refine r_astore C (lo' := [(5, .ref zz), (4, .ref (hO α p 0)), (3, .ref (cO α c 0)), (0, .ref (α 0)), (1, .int (nI c)), (2, .int (nI d))]) dX11_leave_83 (by decide) rfl ?_
      refine r_aload C 1 dX11_leave_85 rfl ?_
      refine r_aload C 0 dX11_leave_87 rfl ?_
      refine V.stat hgX (fun hst2 => ?_)
      refine r_callV C hgX (ci := 10) ml_X11_172 im_X8_tellLeave se_X8_tellLeave rfl rfl (hbp.k 0 11 rfl) (c_X8_tellLeave l hfl G My5 (hO α p) hbp (sz (29 + 57 * p + 2)) (el (29 + 57 * p + 2)) (fun i => un τ 15 (ix (29 + 57 * p + 2) i)) hL2 (by omega) hrk zz d hz2.1 hz2.2 (by omega)) rfl (Nat.le_of_ble_eq_true rfl) ⟨Nat.le_of_ble_eq_true rfl, Nat.le_of_ble_eq_true rfl⟩ ⟨Nat.le_of_ble_eq_true rfl, Nat.le_of_ble_eq_true rfl⟩ dX11_leave_89 rfl ?_
      rintro _ My6 ⟨rfl, k6, hk6, hge6, hle6, d6, hd6, hLI6, hLF6⟩
      have hk23 : KP (LX α (fun k => k = 29 + 57 * p + 2)) (LB α (fun k => k = 29 + 57 * p + 2) My5) My5 My6 := (KP.rf).lfb hst2 hL2 hd6 hLF6 ⟨29 + 57 * p + 2, lc_p hp (by decide) (by decide), rfl, rfl⟩ (fun x hx => hx.elim (fun h => .inl ⟨29 + 57 * p + 2, lc_p hp (by decide) (by decide), rfl, h⟩) .inr)
      have hlz3 := hlz2.add (fun i j hi hj => hws.1 i j hi.lv hj.lv) (lc_p hp (show 1 ≤ 2 by decide) (by decide)) hd6 hst2 (by rw [lsC_p hp (by decide) (by decide)]; exact hLI6) hLF6
      have hwU : WF (leU τ c d) := wf_leave hw hn30 hc hd1 hd2
      obtain ⟨nc, cn, nl, ln, hPc, hPl, hDj, hEn, hk03⟩ := le_s hw hws hwt hwb hn30 hc hd1 hd2 hpe.symm hz hMe5 hlw hk23 hk6 hge6 hle6 hlz3
      have hX3 := hws.xk hk03 (fun k hk hn => LB.no hws hk (fun z => hn z.1))
      have hx := hX3.1
      have hbp := (hX3.2 p hp).1
      have hwx : ∀ k, mI My6 (α 0) k = mI M (α 0) k := fun k => congrFun ((hk03 _ (hws.kn (lv_s (show 0 < 476 by decide)))).2.2.1 (LX.no hws (lv_s (by decide)) (fun z => by have := z.2; omega))).1 k
      have hwx0 := hwt.2.2.2.1
      refine r_aload C 1 dX11_leave_92 rfl ?_
      refine r_sipush C (v := nI 720) dX11_leave_94 (by decide) ?_
      refine r_aload_n C 3 dX11_leave_97 rfl rfl ?_
      refine r_getI C fl_X11_152 rfl (hx.k 0 14 rfl) dX11_leave_98 ?_
      refine V.ei (y := nI (un τ 18 18)) ((hwx 8).trans hwx0.2.2.1) ?_
      refine r_aload_n C 3 dX11_leave_101 rfl rfl ?_
      refine r_getI C fl_X11_155 rfl (hx.k 0 14 rfl) dX11_leave_102 ?_
      refine V.ei (y := nI (un τ 19 19)) ((hwx 9).trans hwx0.2.2.2.1) ?_
      refine r_aload_n C 3 dX11_leave_105 rfl rfl ?_
      refine r_getI C fl_X11_158 rfl (hx.k 0 14 rfl) dX11_leave_106 ?_
      refine V.ei (y := nI (un τ 20 20)) ((hwx 10).trans hwx0.2.2.2.2.1) ?_
      refine r_callV C hgX (ci := 10) ml_X11_176 im_X8_takeLeave se_X8_takeLeave rfl rfl (hbp.k 0 11 rfl) (c_X8_takeLeave l hfl G My6 (hO α p) hbp (leU τ c d) hwU p nc cn (fun i => cO (nw α (1200 + un τ 17 17) 1 zz) (cn i)) hPc nl ln (fun i => lO (nw α (1200 + un τ 17 17) 1 zz) (ln i)) hPl hDj 720 (by decide)) rfl (Nat.le_of_ble_eq_true rfl) ⟨Nat.le_of_ble_eq_true rfl, Nat.le_of_ble_eq_true rfl⟩ ⟨Nat.le_of_ble_eq_true rfl, Nat.le_of_ble_eq_true rfl⟩ dX11_leave_109 rfl ?_
      rintro _ My7 ⟨hfm7, hlk7, hlt7, hlu7, x7, rfl, hxl7⟩
      refine V.eSt (st' := [.int x7]) rfl ?_
      obtain ⟨hWD, hCF, hnab⟩ := le_w hw hws hwt hwb hn30 hc hd1 hd2 hpe.symm hz hMe5 hlw hk23 hk6 hge6 hle6 hlz3 hEn hfm7 hlk7
      have hx := hfm7.blk hx
      have hbp := hfm7.blk hbp
      have hbk := hbp.sub tbBk 15 rfl
      have hx7 : mI My7 (α 0) 7 = nI (un τ 17 17) := by
              refine Eq.trans (congrFun (hfm7.i ?_) 7) ((hwx 7).trans hwx0.2.1)
              rintro ⟨i, a, e⟩
              have h1 := (hEn.1 i a).1
              have h2 := hWD.1.1 0 (1200 + ln i) (lv_s (by decide)) (lv_l h1) ((nw_o (by omega)).trans e)
              omega
      have hzt : mI My7 zz 2 = nI (ltN (leU τ c d) (un τ 17 17)) := by
              have f := le_f (τ := τ) (c := c) (d := d) (by omega) (by omega) (by omega)
              have h9_ := (hw.cw c hc)
              obtain ⟨i, a, b⟩ := hEn.2.2 (un τ 17 17) (by rw [f.2.1]; omega) (by rw [f.2.2.2.1, un_e (f.1 0 (by decide) (by decide) (by decide))]; exact hpe.symm)
              have g := hlt7 i a (by have := hEn.1 i a; rw [b, f.2.2.2.2]; omega)
              rw [b] at g
              rw [← show lO (nw α (1200 + un τ 17 17) 1 zz) (un τ 17 17) = zz from nw_n (s := 1200 + un τ 17 17) (o := 0) (by decide)]
              exact g
      have hzna : zz ≠ α 0 := fun e => hws.kn (lv_s (show 0 < 476 by decide)) (hz _ (Nat.le_of_eq e))
      have hznb : zz ≠ bO α p 0 := fun e => hws.kn (lv_b hp (show 0 < 42 by decide)) (hz _ (Nat.le_of_eq e))
      have hkz5 : mK My7 zz = 9 := (congrFun hfm7.1 zz).trans ((hk23 zz (by rw [hz2.1]; decide)).1.trans hz2.1)
      refine r_pop C dX11_leave_112 rfl ?_
      refine r_aload C 1 dX11_leave_113 rfl ?_
      refine r_getR C (b := (bO α p 0)) fl_X11_94 rfl (hbp.k 0 11 rfl) (hbp.r 0 10 15 rfl) dX11_leave_115 ?_
      refine r_iconst C (v := nI 1) dX11_leave_118 (by decide) ?_
      refine r_putZ C fl_X11_98 (by decide) (hbk.k 0 4 rfl) dX11_leave_119 ?_
      refine r_aload_n C 3 dX11_leave_122 rfl rfl ?_
      refine r_dup C dX11_leave_123 rfl ?_
      refine r_getI C fl_X11_164 rfl (hx.k 0 14 rfl) dX11_leave_124 ?_
      refine V.ei (y := nI (un τ 17 17)) ((congrFun (wI_a hnab) 7).trans hx7) ?_
      refine r_iconst C (v := nI 1) dX11_leave_127 (by decide) ?_
      refine r_iaddN C dX11_leave_128 ?_
      refine r_putI C fl_X11_164 (hx.k 0 14 rfl) dX11_leave_129 ?_
      refine r_aload C 0 dX11_leave_132 rfl ?_
      refine r_getI C fl_X11_180 rfl hkz5 dX11_leave_134 ?_
      refine V.ei (y := nI (ltN (leU τ c d) (un τ 17 17))) ((congrFun ((wI_a hzna).trans (wI_a hznb)) 2).trans hzt) ?_
      refine V.xret ?_
      exact r_zret C hr (by rcases (show ltN (leU τ c d) (un τ 17 17) = 0 ∨ ltN (leU τ c d) (un τ 17 17) = 1 by have := ltN_le (leU τ c d) (un τ 17 17); omega) with z | z <;> rw [z] <;> decide) (⟨k_2 hq hq2, by rw [e_x, e_y]; have := ltN_le (leU τ c d) (un τ 17 17); show some (Value.int (nI (ltN (leU τ c d) (un τ 17 17)))) = some (Value.int (bI (decide (ltN (leU τ c d) (un τ 17 17) = 1)))); rcases (show ltN (leU τ c d) (un τ 17 17) = 0 ∨ ltN (leU τ c d) (un τ 17 17) = 1 by omega) with z | z <;> rw [z] <;> rfl, nw α (1200 + un τ 17 17) 1 zz, by rw [e_x, e_y]; exact hWD, nw_o (by omega), hCF, XO.grow hz (fun k_ hk_ => LV.l ((congrArg Int32.toNatClampNeg sI_s).trans (nI_clamp (n := un τ 17 17 + 1) (by omega))) rfl rfl rfl hk_)⟩) (by first | exact Nat.zero_le _ | decide) (by first | exact Nat.zero_le _ | decide) dX11_leave_137
    refine r_aload_n C 0 dX11_leave_34 rfl rfl ?_
    refine r_getI C fl_X11_164 rfl (hx.k 0 14 rfl) dX11_leave_35 ?_
    refine V.ei (y := nI (un τ 17 17)) (hwx.2.1) ?_
    refine r_bipush C (v := nI 30) dX11_leave_38 (by decide) ?_
    refine r_icmp_geN C (t := 47) (by omega) (by omega) dX11_leave_40 (by decide) (fun c40 => ?_) (fun c40 => ?_)
    · skip
      refine r_iconst C (v := nI 0) dX11_leave_47 (by decide) ?_
      refine V.eSt (st' := [.int (bI false)]) rfl ?_
      refine V.ei (y := bI (decide (un τ 17 17 ≠ 30))) (congrArg bI (by exact (decide_eq_false (by omega)).symm)) ?_
      exact jn48
    · skip
      refine r_iconst C (v := nI 1) dX11_leave_43 (by decide) ?_
      refine r_goto C (t := 48) dX11_leave_44 (by decide) ?_
      refine V.eSt (st' := [.int (bI true)]) rfl ?_
      refine V.ei (y := bI (decide (un τ 17 17 ≠ 30))) (congrArg bI (by exact (decide_eq_true (by omega)).symm)) ?_
      exact jn48
  refine r_aload_n C 0 dX11_leave_0 rfl rfl ?_
  refine r_iload_n C 1 dX11_leave_1 rfl rfl ?_
  refine r_callV C hgX (ci := 13) ml_X11_104 im_X11_isContract se_X11_isContract rfl rfl (hx.k 0 14 rfl) (c_X11_isContract l hfl G M τ hw α hws hwt hwb had x) rfl (Nat.le_of_ble_eq_true rfl) ⟨Nat.le_of_ble_eq_true rfl, Nat.le_of_ble_eq_true rfl⟩ ⟨Nat.le_of_ble_eq_true rfl, Nat.le_of_ble_eq_true rfl⟩ dX11_leave_2 rfl ?_
  rintro _ _ ⟨rfl, rfl⟩
  refine V.eSt (st' := [.int (bI (rng x (un τ 9 9)))]) rfl ?_
  refine r_if_eqB C (t := 30) dX11_leave_5 (by decide) (fun c5 => ?_) (fun c5 => ?_)
  · skip
    refine r_iconst C (v := nI 0) dX11_leave_30 (by decide) ?_
    refine V.eSt (st' := [.int (bI false)]) rfl ?_
    refine V.ei (y := bI (isOfB τ x y)) (congrArg bI (by unfold isOfB; rw [c5]; rfl)) ?_
    exact jn31
  · skip
    obtain ⟨c, hc, e_x⟩ := rng_t c5
    have hco := hws.2.2.2.2.1 c hc
    have hcf := (hwt.1 c hc).1
    refine r_aload_n C 0 dX11_leave_8 rfl rfl ?_
    refine r_getR C (b := (α 1)) fl_X11_10 rfl (hx.k 0 14 rfl) (hx.r 0 0 1 rfl) dX11_leave_9 ?_
    refine r_iload_n C 1 dX11_leave_12 rfl rfl ?_
    refine V.ei (y := nI c) e_x ?_
    obtain ⟨d_, hd_, hkd_, hsn_, hn_, hri_⟩ := (hws.2.2.2.2.2.2.2.2.1).get (i := c) (by omega)
    refine r_callV C hgX (ci := 2) ml_X11_107 im_Jx4a65c_get_915e3 se_Jx4a65c_get_915e3 rfl rfl (hx.k 1 3 rfl) (c_Jx4a65c_get_915e3 l hfl G M (α 1) d_ _ c (cO α c 0) (un τ 9 9) (hws.2.2.2.2.2.2.2.2.1).1 hd_ (hws.2.2.2.2.2.2.2.2.1).2.1 hkd_ rfl hn_ hsn_ (by omega) hri_) rfl (Nat.le_of_ble_eq_true rfl) ⟨Nat.le_of_ble_eq_true rfl, Nat.le_of_ble_eq_true rfl⟩ ⟨Nat.le_of_ble_eq_true rfl, Nat.le_of_ble_eq_true rfl⟩ dX11_leave_13 rfl ?_
    rintro _ _ ⟨rfl, rfl⟩
    refine V.eSt (st' := [.ref (cO α c 0)]) rfl ?_
    refine r_cast C (ci := 5) rfl cl_X11_74 ((hco.k 0 6 rfl)) dX11_leave_16 ?_
    refine r_iload_n C 2 dX11_leave_19 rfl rfl ?_
    refine r_callV C hgX (ci := 5) ml_X11_119 im_X3_covers se_X3_covers rfl rfl (hco.k 0 6 rfl) (c_X3_covers l hfl G M (cO α c) hco τ hw c hc hcf y) rfl (Nat.le_of_ble_eq_true rfl) ⟨Nat.le_of_ble_eq_true rfl, Nat.le_of_ble_eq_true rfl⟩ ⟨Nat.le_of_ble_eq_true rfl, Nat.le_of_ble_eq_true rfl⟩ dX11_leave_20 rfl ?_
    rintro _ _ ⟨rfl, rfl⟩
    refine V.eSt (st' := [.int (bI (cvB τ c y))]) rfl ?_
    refine r_if_eqB C (t := 30) dX11_leave_23 (by decide) (fun c23 => ?_) (fun c23 => ?_)
    · skip
      refine r_iconst C (v := nI 0) dX11_leave_30 (by decide) ?_
      refine V.eSt (st' := [.int (bI false)]) rfl ?_
      refine V.ei (y := bI (isOfB τ x y)) (congrArg bI (by show _ = (rng x (un τ 9 9) && cvB τ x.toNatClampNeg y); rw [c5, e_x, nI_clamp (n := c) (by omega), c23]; rfl)) ?_
      exact jn31
    · skip
      refine r_iconst C (v := nI 1) dX11_leave_26 (by decide) ?_
      refine r_goto C (t := 31) dX11_leave_27 (by decide) ?_
      refine V.eSt (st' := [.int (bI true)]) rfl ?_
      refine V.ei (y := bI (isOfB τ x y)) (congrArg bI (by show _ = (rng x (un τ 9 9) && cvB τ x.toNatClampNeg y); rw [c5, e_x, nI_clamp (n := c) (by omega), c23]; rfl)) ?_
      exact jn31

