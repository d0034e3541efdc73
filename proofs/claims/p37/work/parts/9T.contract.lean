/-! contract: the walk -/
theorem st_none {M : Mem} {h t n : Nat} (e1 : mI M h = fun _ => 0) (e2 : mI M t = fun _ => 0) : StV (fun _ => none) (mI M) h t n := fun x _ => by
  have k1 : ∀ n, lsV (fun _ => none) n = 0 := fun n => by
    induction n with
    | zero => rfl
    | succ n ih => exact ih
  rw [e1, e2, k1]
  exact ⟨rfl, rfl⟩
theorem cf_new {τ : Mu} {α : Nat → Nat} {L : Nat → Prop} {M M4 : Mem} {p : Nat} {v : Int32} (hp : p < 6) (k : KP (LX α L) (LB α L M) M M4) : CF τ α M (wI M4 (bO α p 0) 0 v) := by
  have g : KP (fun x => LX α L x ∨ x = bO α p 0) (fun x => LX α L x ∨ mK M x = 26) M (wI M4 (bO α p 0) 0 v) := (k.mono (fun x _ h => .inl h) (fun x hx h => h.elim .inl (fun h => h.elim .inr (fun h => absurd h hx)))).tr (KP.fr ((frm.rf (fun x => LX α L x ∨ x = bO α p 0) M4).wi 0 v (.inr rfl)))
  exact g.cf (fun a h => h.elim LX.lv (fun h => ⟨_, lv_b hp (show 0 < 42 by decide), h⟩)) (fun a h => h.elim (fun h => .inl h.lv) .inr)
theorem bI_nn (b : Bool) : bI b = nI (if b = true then 1 else 0) := by cases b <;> rfl
theorem le_N {x y : Int32} {a b : Nat} (ea : x = nI a) (eb : y = nI b) (ha : a < 2 ^ 31) (hb : b < 2 ^ 31) (h : decide (x ≤ y) = true) : a ≤ b := by
  have h := of_decide_eq_true h
  rw [ea, eb, Int32.le_iff_toInt_le, nI_toInt ha, nI_toInt hb] at h
  omega
set_option maxHeartbeats 1000000 in
set_option maxRecDepth 100000 in
theorem c_X11_contract (l : Launch) (hfl : l.flags = flags0) (G : gW) (M : Mem) (τ : Mu) (hw : WF τ) (α : Nat → Nat) (hws : WS τ G α M) (hwt : WT τ α M) (hwb : WB τ α M) (had : ∀ p, p < 6 → AD τ p) (x y z t : Int32) (b : Bool) (n u : Int32) (hn6 : un τ 9 9 ≠ 10 → ∀ d, d < 720 → τ.1 6 (720 * un τ 9 9 + d) = -1) : CX l yX11_contract cX11_contract 9 (some .int) 7 15 2947 229 G M [.ref (α 0), .int x, .int y, .int z, .int t, .int (bI b), .int n, .int u] (fun v M' => PC τ G α M (cd3 (rng x 6 && rng y 3 && rng z 720 && rng t 720) (decide (z ≤ t) && inB n (lN 60) (lN 600) && inB u (lN 0) (lN 1000000)) (decide (un τ 9 9 ≠ 10))) (sI (spS (sI (sI (sI (sI (sI (sI (sI τ 0 (un τ 9 9) x) 1 (un τ 9 9) y) 2 (un τ 9 9) z) 3 (un τ 9 9) t) 4 (un τ 9 9) (bI b)) 5 (un τ 9 9) n) 6 (720 * un τ 9 9 + z.toNatClampNeg) u) (un τ 9 9) 720) 9 9 (nI (un τ 9 9 + 1))) (some (.int (nI (un τ 9 9)))) v M') (fun E M' => XP M (cd3 (rng x 6 && rng y 3 && rng z 720 && rng t 720) (decide (z ≤ t) && inB n (lN 60) (lN 600) && inB u (lN 0) (lN 1000000)) (decide (un τ 9 9 ≠ 10))) ["java/lang/IndexOutOfBoundsException", "java/lang/IllegalArgumentException", "java/lang/IllegalStateException"] E M') := by
  refine CX.of hfl rfl (Nat.le_of_ble_eq_true rfl) ?_
  intro pp ee ss mm ar bw mt cd C hgX hr hno
  have hx := hws.2.1
  have hwx := hwt.2.2.2.1
  have h9 := hw.nc.2
  have h13 := hw.sh.2
  have h17 := hw.nl.2
  have h26 := hw.ne.2
  have h44 := hw.ng.2
  have h46 := hw.op.2
  have h51 := hw.np.2
  refine V.eLo (lo' := [(0, .ref (α 0)), (1, .int x), (2, .int y), (3, .int z), (4, .int t), (5, .int (bI b)), (6, .int n), (7, .int u)]) rfl ?_
  have jn34 : V pp l ee ({ frames := 7, cells := 15, slots := 2947, locals := 229 } : Room) ss mm ar bw mt cd G (vx_MQ bw (Ke G (fun v M' => PC τ G α M (cd3 (rng x 6 && rng y 3 && rng z 720 && rng t 720) (decide (z ≤ t) && inB n (lN 60) (lN 600) && inB u (lN 0) (lN 1000000)) (decide (un τ 9 9 ≠ 10))) (sI (spS (sI (sI (sI (sI (sI (sI (sI τ 0 (un τ 9 9) x) 1 (un τ 9 9) y) 2 (un τ 9 9) z) 3 (un τ 9 9) t) 4 (un τ 9 9) (bI b)) 5 (un τ 9 9) n) 6 (720 * un τ 9 9 + z.toNatClampNeg) u) (un τ 9 9) 720) 9 9 (nI (un τ 9 9 + 1))) (some (.int (nI (un τ 9 9)))) v M')) (Kx G (fun E M' => XP M (cd3 (rng x 6 && rng y 3 && rng z 720 && rng t 720) (decide (z ≤ t) && inB n (lN 60) (lN 600) && inB u (lN 0) (lN 1000000)) (decide (un τ 9 9 ≠ 10))) ["java/lang/IndexOutOfBoundsException", "java/lang/IllegalArgumentException", "java/lang/IllegalStateException"] E M')) ar ss 15 2947 (gA G)) 9 M 0 0 34 [(0, .ref (α 0)), (1, .int x), (2, .int y), (3, .int z), (4, .int t), (5, .int (bI b)), (6, .int n), (7, .int u)] [.int (bI (rng x 6 && rng y 3 && rng z 720 && rng t 720))] := by
    skip
    refine r_xS C hgX hno ml_X11_55 st_X11_needThere (c_X11_needThere l hfl G M (rng x 6 && rng y 3 && rng z 720 && rng t 720)) rfl (Nat.le_of_ble_eq_true rfl) ⟨Nat.le_of_ble_eq_true rfl, Nat.le_of_ble_eq_true rfl⟩ ⟨Nat.le_of_ble_eq_true rfl, Nat.le_of_ble_eq_true rfl⟩ dX11_contract_34 rfl (fun E_ M_ h_ => x_3a h_) ⟨Nat.le_of_ble_eq_true rfl, Nat.le_of_ble_eq_true rfl⟩ ?_
    rintro _ _ ⟨rfl, rfl, hq1⟩
    have hq := hq1
    obtain ⟨hqa, hqd⟩ := Bool.and_eq_true_iff.mp hq
    obtain ⟨hqa, hqc⟩ := Bool.and_eq_true_iff.mp hqa
    obtain ⟨hqa, hqb⟩ := Bool.and_eq_true_iff.mp hqa
    obtain ⟨p, hp, e_x⟩ := rng_t hqa
    obtain ⟨q, hqq, e_y⟩ := rng_t hqb
    obtain ⟨f, hf, e_z⟩ := rng_t hqc
    obtain ⟨tt, htt, e_t⟩ := rng_t hqd
    have jn72 : V pp l ee ({ frames := 7, cells := 15, slots := 2947, locals := 229 } : Room) ss mm ar bw mt cd G (vx_MQ bw (Ke G (fun v M' => PC τ G α M (cd3 (rng x 6 && rng y 3 && rng z 720 && rng t 720) (decide (z ≤ t) && inB n (lN 60) (lN 600) && inB u (lN 0) (lN 1000000)) (decide (un τ 9 9 ≠ 10))) (sI (spS (sI (sI (sI (sI (sI (sI (sI τ 0 (un τ 9 9) x) 1 (un τ 9 9) y) 2 (un τ 9 9) z) 3 (un τ 9 9) t) 4 (un τ 9 9) (bI b)) 5 (un τ 9 9) n) 6 (720 * un τ 9 9 + z.toNatClampNeg) u) (un τ 9 9) 720) 9 9 (nI (un τ 9 9 + 1))) (some (.int (nI (un τ 9 9)))) v M')) (Kx G (fun E M' => XP M (cd3 (rng x 6 && rng y 3 && rng z 720 && rng t 720) (decide (z ≤ t) && inB n (lN 60) (lN 600) && inB u (lN 0) (lN 1000000)) (decide (un τ 9 9 ≠ 10))) ["java/lang/IndexOutOfBoundsException", "java/lang/IllegalArgumentException", "java/lang/IllegalStateException"] E M')) ar ss 15 2947 (gA G)) 9 M 1 6 72 [(0, .ref (α 0)), (1, .int x), (2, .int y), (3, .int z), (4, .int t), (5, .int (bI b)), (6, .int n), (7, .int u)] [.int (bI (decide (z ≤ t) && inB n (lN 60) (lN 600) && inB u (lN 0) (lN 1000000)))] := by
      skip
      refine r_xS C hgX hno ml_X11_64 st_X11_needFitting (c_X11_needFitting l hfl G M (decide (z ≤ t) && inB n (lN 60) (lN 600) && inB u (lN 0) (lN 1000000))) rfl (Nat.le_of_ble_eq_true rfl) ⟨Nat.le_of_ble_eq_true rfl, Nat.le_of_ble_eq_true rfl⟩ ⟨Nat.le_of_ble_eq_true rfl, Nat.le_of_ble_eq_true rfl⟩ dX11_contract_72 rfl (fun E_ M_ h_ => x_3b hq h_) ⟨Nat.le_of_ble_eq_true rfl, Nat.le_of_ble_eq_true rfl⟩ ?_
      rintro _ _ ⟨rfl, rfl, hq2⟩
      have hq2 := hq2
      obtain ⟨hqe, hqf⟩ := Bool.and_eq_true_iff.mp hq2
      obtain ⟨hqe, hqg⟩ := Bool.and_eq_true_iff.mp hqe
      have hft := le_N e_z e_t (by omega) (by omega) hqe
      obtain ⟨w, hw60, hw600, e_n⟩ := inB_N (by decide) (by decide) hqg
      obtain ⟨v, hv0, hv1, e_u⟩ := inB_N (by decide) (by decide) hqf
      refine V.eLo (lo' := [(0, .ref (α 0)), (1, .int (nI p)), (2, .int (nI q)), (3, .int (nI f)), (4, .int (nI tt)), (5, .int (bI b)), (6, .int (nI w)), (7, .int (nI v))]) (by rw [e_x, e_y, e_z, e_t, e_n, e_u]) ?_
      have jn92 : V pp l ee ({ frames := 7, cells := 15, slots := 2947, locals := 229 } : Room) ss mm ar bw mt cd G (vx_MQ bw (Ke G (fun v M' => PC τ G α M (cd3 (rng x 6 && rng y 3 && rng z 720 && rng t 720) (decide (z ≤ t) && inB n (lN 60) (lN 600) && inB u (lN 0) (lN 1000000)) (decide (un τ 9 9 ≠ 10))) (sI (spS (sI (sI (sI (sI (sI (sI (sI τ 0 (un τ 9 9) x) 1 (un τ 9 9) y) 2 (un τ 9 9) z) 3 (un τ 9 9) t) 4 (un τ 9 9) (bI b)) 5 (un τ 9 9) n) 6 (720 * un τ 9 9 + z.toNatClampNeg) u) (un τ 9 9) 720) 9 9 (nI (un τ 9 9 + 1))) (some (.int (nI (un τ 9 9)))) v M')) (Kx G (fun E M' => XP M (cd3 (rng x 6 && rng y 3 && rng z 720 && rng t 720) (decide (z ≤ t) && inB n (lN 60) (lN 600) && inB u (lN 0) (lN 1000000)) (decide (un τ 9 9 ≠ 10))) ["java/lang/IndexOutOfBoundsException", "java/lang/IllegalArgumentException", "java/lang/IllegalStateException"] E M')) ar ss 15 2947 (gA G)) 9 M 2 12 92 [(0, .ref (α 0)), (1, .int (nI p)), (2, .int (nI q)), (3, .int (nI f)), (4, .int (nI tt)), (5, .int (bI b)), (6, .int (nI w)), (7, .int (nI v))] [.int (bI (decide (un τ 9 9 ≠ 10)))] := by
        skip
        refine r_xS C hgX hno ml_X11_71 st_X11_needAllowed (c_X11_needAllowed l hfl G M (decide (un τ 9 9 ≠ 10))) rfl (Nat.le_of_ble_eq_true rfl) ⟨Nat.le_of_ble_eq_true rfl, Nat.le_of_ble_eq_true rfl⟩ ⟨Nat.le_of_ble_eq_true rfl, Nat.le_of_ble_eq_true rfl⟩ dX11_contract_92 rfl (fun E_ M_ h_ => x_3c hq hq2 h_) ⟨Nat.le_of_ble_eq_true rfl, Nat.le_of_ble_eq_true rfl⟩ ?_
        rintro _ _ ⟨rfl, rfl, hq3⟩
        have hq3 := hq3
        have hn10 : un τ 9 9 ≠ 10 := of_decide_eq_true hq3
        have hn6 := hn6 hn10
        obtain ⟨sz, el, ix, hlw⟩ := hws.ls
        have hb01 : (if b = true then 1 else 0 : Nat) ≤ 1 := by split <;> omega
        refine V.mark C (fun zz hgz hz => ?_)
        refine r_new C (q := zz) nl_X11_74 (hgz) (hz _ (Nat.le_refl _)) (va_up_self _ _ _) (Nat.le_of_ble_eq_true rfl) (Nat.le_of_ble_eq_true rfl) dX11_contract_95 ?_
        have hC := NB.cell (T := tbCo) (e0 := gS G 0) (M := mMk M zz) (q := zz) hz (κ := 6) ⟨rfl, rfl⟩
        generalize (wMk (mMk M zz) zz 6 0) = Mc4 at hC ⊢
        refine r_dup C dX11_contract_98 rfl ?_
        refine r_iload_n C 1 dX11_contract_99 rfl rfl ?_
        refine r_iload_n C 2 dX11_contract_100 rfl rfl ?_
        refine r_iload_n C 3 dX11_contract_101 rfl rfl ?_
        refine r_iload C 4 dX11_contract_102 rfl ?_
        refine r_iload C 5 dX11_contract_104 rfl ?_
        refine r_iload C 6 dX11_contract_106 rfl ?_
        refine r_callI C hgX ml_X11_76 im_X3_init rfl (c_X3_init l hfl G Mc4 (mMk M zz) zz (by omega) hC (nI p) (nI q) (nI f) (nI tt) b (nI w)) rfl (Nat.le_of_ble_eq_true rfl) ⟨Nat.le_of_ble_eq_true rfl, Nat.le_of_ble_eq_true rfl⟩ ⟨Nat.le_of_ble_eq_true rfl, Nat.le_of_ble_eq_true rfl⟩ dX11_contract_108 rfl ?_
        rintro _ My5 ⟨rfl, hS⟩
        rw [bI_nn] at hS
        have hBz := hS.blk rfl rfl
        refine r_astore C (lo' := [(8, .ref zz), (0, .ref (α 0)), (1, .int (nI p)), (2, .int (nI q)), (3, .int (nI f)), (4, .int (nI tt)), (5, .int (bI b)), (6, .int (nI w)), (7, .int (nI v))]) dX11_contract_111 (by decide) rfl ?_
        refine r_aload C 0 dX11_contract_113 rfl ?_
        refine r_getR C (b := (zz + 1)) fl_X11_79 rfl (show mK My5 zz = 6 from (hS.1 0 (by decide)).1) (hS.2.2.2.1 (0, 6, 1) (by decide)).2 dX11_contract_115 ?_
        refine r_iload_n C 4 dX11_contract_118 rfl rfl ?_
        refine r_iload C 8 dX11_contract_119 rfl ?_
        refine r_callV C hgX (ci := 12) ml_X11_83 im_X10_tell se_X10_tell rfl rfl (show mK My5 (zz + 1) = 13 from (hS.1 1 (by decide)).1) (c_X10_tell l hfl G My5 (fun o => zz + (1 + o)) 720 (by decide) (hBz.sub (tbSt 720) 1 rfl) (fun _ => none) (st_none (hS.2.2.2.2.1 2 (by decide)).1 (hS.2.2.2.2.1 3 (by decide)).1) f v (by omega)) rfl (Nat.le_of_ble_eq_true rfl) ⟨Nat.le_of_ble_eq_true rfl, Nat.le_of_ble_eq_true rfl⟩ ⟨Nat.le_of_ble_eq_true rfl, Nat.le_of_ble_eq_true rfl⟩ dX11_contract_121 rfl ?_
        rintro _ My6 ⟨rfl, hfm6, hsv6⟩
        have hf2 : frm (fun a => a = zz + 2 ∨ a = zz + 3) My5 My6 := hfm6
        have hs2 : StV (upV (fun _ => none) f (nI v)) (mI My6) (zz + 2) (zz + 3) 720 := hsv6
        have hk02 := KP.fr2 (fun A B => (KP.mk hz).tr (hS.kp hz)) hf2 (fun x hx => hz x (by omega))
        have hlz2 : LZ G α My6 sz el := hlw.1.kp (hk02 (fun _ => False) (fun _ => False)) (fun _ _ h => h) (fun _ _ h => h)
        have hX2 := hws.xk (hk02 (fun _ => False) (fun _ => False)) (fun _ _ _ h => h)
        have hx := hX2.1
        have hkz2 : mK My6 zz = 6 := (congrFun hf2.1 zz).trans (hS.1 0 (by decide)).1
        have hL2 : LI G My6 5 (α 1) (sz 1) (el 1) := hlz2.1 1 (.inl rfl)
        have hsz1 : sz 1 = un τ 9 9 := hlw.2.1.1
        refine r_aload_n C 1 dX11_contract_124 rfl rfl ?_
        refine r_getR C (b := (α 1)) fl_X11_10 rfl (hx.k 0 14 rfl) (hx.r 0 0 1 rfl) dX11_contract_125 ?_
        refine r_aload C 0 dX11_contract_128 rfl ?_
        refine V.stat hgX (fun hst2 => ?_)
        refine r_callV C hgX (ci := 2) ml_X11_89 im_Jx4a65c_add_9ea2d se_Jx4a65c_add_9ea2d rfl rfl (hx.k 1 3 rfl) (c_Jx4a65c_add_9ea2d l hfl G My6 5 (α 1) (sz 1) (el 1) _ rfl (by decide) hL2 (by omega) zz hkz2) rfl (Nat.le_of_ble_eq_true rfl) ⟨Nat.le_of_ble_eq_true rfl, Nat.le_of_ble_eq_true rfl⟩ ⟨Nat.le_of_ble_eq_true rfl, Nat.le_of_ble_eq_true rfl⟩ dX11_contract_130 rfl ?_
        rintro _ My7 ⟨rfl, d7, hd7, hLI7, hLF7⟩
        refine V.eSt (st' := [.int (nI 1)]) rfl ?_
        have hk23 : KP (LX α (fun k => k = 1 ∨ k = 29 + 57 * p + 1)) (LB α (fun k => k = 1 ∨ k = 29 + 57 * p + 1) My6) My6 My7 := (KP.rf).lfb hst2 hL2 hd7 hLF7 ⟨1, .inl rfl, .inl rfl, rfl⟩ (fun x hx => hx.elim (fun h => .inl ⟨1, .inl rfl, .inl rfl, h⟩) .inr)
        have hlz3 := hlz2.add (fun i j hi hj => hws.1 i j hi.lv hj.lv) (.inl rfl) hd7 hst2 hLI7 hLF7
        have hk03 := KP.join hk02 hk23
        have hX3 := hws.xk hk03 (fun k hk hn => LB.no hws hk (fun z => hn z.1))
        have hx := hX3.1
        have hbp := (hX3.2 p hp).1
        have hL3 : LI G My7 5 (hO α p 1) (sz (29 + 57 * p + 1)) (el (29 + 57 * p + 1)) := by have h := hlz3.oth (lc_p hp (show 1 ≤ 1 by decide) (by decide)) (by omega); rw [lsC_p hp (by decide) (by decide)] at h; exact h
        have hszp : sz (29 + 57 * p + 1) ≤ un τ 9 9 := (hlw.2.2.2.2 p hp).1.1.le
        have hkz3 : mK My7 zz = 6 := (hk23 zz (by rw [hkz2]; decide)).1.trans hkz2
        refine r_pop C dX11_contract_133 rfl ?_
        refine r_aload_n C 1 dX11_contract_134 rfl rfl ?_
        refine r_getR C (b := (α 2)) fl_X11_18 rfl (hx.k 0 14 rfl) (hx.r 0 1 2 rfl) dX11_contract_135 ?_
        refine r_iload_n C 2 dX11_contract_138 rfl rfl ?_
        refine r_aaloadN C (b := (hO α p 0)) 1 (by decide) (hx.k 2 24 rfl) (hx.n 2 6 rfl) (by omega) (by omega) (hX3.2 p (by omega)).2 dX11_contract_139 ?_
        refine r_getR C (b := (hO α p 1)) fl_X11_93 rfl (hbp.k 0 11 rfl) (hbp.r 0 1 1 rfl) dX11_contract_140 ?_
        refine r_aload C 0 dX11_contract_143 rfl ?_
        refine V.stat hgX (fun hst3 => ?_)
        refine r_callV C hgX (ci := 2) ml_X11_89 im_Jx4a65c_add_9ea2d se_Jx4a65c_add_9ea2d rfl rfl (hbp.k 1 3 rfl) (c_Jx4a65c_add_9ea2d l hfl G My7 5 (hO α p 1) (sz (29 + 57 * p + 1)) (el (29 + 57 * p + 1)) _ rfl (by decide) hL3 (by omega) zz hkz3) rfl (Nat.le_of_ble_eq_true rfl) ⟨Nat.le_of_ble_eq_true rfl, Nat.le_of_ble_eq_true rfl⟩ ⟨Nat.le_of_ble_eq_true rfl, Nat.le_of_ble_eq_true rfl⟩ dX11_contract_145 rfl ?_
        rintro _ My8 ⟨rfl, d8, hd8, hLI8, hLF8⟩
        refine V.eSt (st' := [.int (nI 1)]) rfl ?_
        have hk24 : KP (LX α (fun k => k = 1 ∨ k = 29 + 57 * p + 1)) (LB α (fun k => k = 1 ∨ k = 29 + 57 * p + 1) My6) My6 My8 := hk23.lfb hst3 hL3 hd8 hLF8 ⟨29 + 57 * p + 1, lc_p hp (by decide) (by decide), .inr rfl, rfl⟩ (fun x hx => hx.elim (fun h => .inl ⟨29 + 57 * p + 1, lc_p hp (by decide) (by decide), .inr rfl, h⟩) .inr)
        have hlz4 := hlz3.add (fun i j hi hj => hws.1 i j hi.lv hj.lv) (lc_p hp (show 1 ≤ 1 by decide) (by decide)) hd8 hst3 (by rw [lsC_p hp (by decide) (by decide)]; exact hLI8) hLF8
        obtain ⟨hWD, hk04⟩ := co_w hw hws hwt hwb hn6 hn10 hp (show q ≤ 2 by omega) hft (show tt ≤ 719 by omega) hb01 hw60 hw600 hv1 hz hS hf2 hs2 hlw hk24 hlz4
        have hX3 := hws.xk hk04 (fun k hk hn => LB.no hws hk (fun z => hn z.1))
        have hx := hX3.1
        have hbp := (hX3.2 p hp).1
        have hbk := hbp.sub tbBk 15 rfl
        have hL5 := (hlz4.oth (.inl rfl) (show (1 : Nat) ≠ 29 + 57 * p + 1 by omega))
        have hsz5 : mI (wI My8 (bO α p 0) 0 (nI 1)) (α 1) 2 = nI (un τ 9 9 + 1) := (congrFun (wI_a (hws.1.ne (lv_s (by decide)) (lv_b hp (by decide)) (by omega))) 2).trans (hL5.2.1.trans (by rw [← hsz1]; rfl))
        refine r_pop C dX11_contract_148 rfl ?_
        refine r_aload_n C 1 dX11_contract_149 rfl rfl ?_
        refine r_getR C (b := (α 2)) fl_X11_18 rfl (hx.k 0 14 rfl) (hx.r 0 1 2 rfl) dX11_contract_150 ?_
        refine r_iload_n C 2 dX11_contract_153 rfl rfl ?_
        refine r_aaloadN C (b := (hO α p 0)) 1 (by decide) (hx.k 2 24 rfl) (hx.n 2 6 rfl) (by omega) (by omega) (hX3.2 p (by omega)).2 dX11_contract_154 ?_
        refine r_getR C (b := (bO α p 0)) fl_X11_94 rfl (hbp.k 0 11 rfl) (hbp.r 0 10 15 rfl) dX11_contract_155 ?_
        refine r_iconst C (v := nI 1) dX11_contract_158 (by decide) ?_
        refine r_putZ C fl_X11_98 (by decide) (hbk.k 0 4 rfl) dX11_contract_159 ?_
        refine r_aload_n C 1 dX11_contract_162 rfl rfl ?_
        refine r_getR C (b := (α 1)) fl_X11_10 rfl (hx.k 0 14 rfl) (hx.r 0 0 1 rfl) dX11_contract_163 ?_
        refine r_callV C hgX (ci := 2) ml_X11_67 im_Jx4a65c_size_8abf5 se_Jx4a65c_size_8abf5 rfl rfl (show mK (wI My8 (bO α p 0) 0 (nI 1)) (α 1) = 2 + 1 from (hx.k 1 3 rfl)) (c_Jx4a65c_size_8abf5 l hfl G (wI My8 (bO α p 0) 0 (nI 1)) (α 1) (un τ 9 9 + 1) hL5.1 hsz5) rfl (Nat.le_of_ble_eq_true rfl) ⟨Nat.le_of_ble_eq_true rfl, Nat.le_of_ble_eq_true rfl⟩ ⟨Nat.le_of_ble_eq_true rfl, Nat.le_of_ble_eq_true rfl⟩ dX11_contract_166 rfl ?_
        rintro _ _ ⟨rfl, rfl⟩
        refine V.eSt (st' := [.int (nI (un τ 9 9 + 1))]) rfl ?_
        refine r_iconst C (v := nI 1) dX11_contract_169 (by decide) ?_
        refine r_isubN C (by omega) dX11_contract_170 ?_
        refine V.xret ?_
        exact r_iret C hr (⟨k_3 hq hq2 hq3, rfl, nw α (1000 + 10 * un τ 9 9) 10 zz, by rw [e_x, e_y, e_z, e_t, e_n, e_u, bI_nn, nI_clamp (n := f) (by omega)]; exact hWD, nw_o (by omega), cf_new hp hk04, XO.grow hz (fun k_ hk_ => LV.c ((congrArg Int32.toNatClampNeg sI_s).trans (nI_clamp (n := un τ 9 9 + 1) (by omega))) rfl rfl rfl hk_)⟩) (by first | exact Nat.zero_le _ | decide) (by first | exact Nat.zero_le _ | decide) dX11_contract_171
      refine r_aload_n C 0 dX11_contract_75 rfl rfl ?_
      refine r_getR C (b := (α 1)) fl_X11_10 rfl (hx.k 0 14 rfl) (hx.r 0 0 1 rfl) dX11_contract_76 ?_
      refine r_callV C hgX (ci := 2) ml_X11_67 im_Jx4a65c_size_8abf5 se_Jx4a65c_size_8abf5 rfl rfl (hx.k 1 3 rfl) (c_Jx4a65c_size_8abf5 l hfl G M (α 1) (un τ 9 9) hws.2.2.2.2.2.2.2.2.1.1 hws.2.2.2.2.2.2.2.2.1.2.1) rfl (Nat.le_of_ble_eq_true rfl) ⟨Nat.le_of_ble_eq_true rfl, Nat.le_of_ble_eq_true rfl⟩ ⟨Nat.le_of_ble_eq_true rfl, Nat.le_of_ble_eq_true rfl⟩ dX11_contract_79 rfl ?_
      rintro _ _ ⟨rfl, rfl⟩
      refine V.eSt (st' := [.int (nI (un τ 9 9))]) rfl ?_
      refine r_bipush C (v := nI 10) dX11_contract_82 (by decide) ?_
      refine r_icmp_geN C (t := 91) (by omega) (by omega) dX11_contract_84 (by decide) (fun c84 => ?_) (fun c84 => ?_)
      · skip
        refine r_iconst C (v := nI 0) dX11_contract_91 (by decide) ?_
        refine V.eSt (st' := [.int (bI false)]) rfl ?_
        refine V.ei (y := bI (decide (un τ 9 9 ≠ 10))) (congrArg bI (by exact (decide_eq_false (by omega)).symm)) ?_
        exact jn92
      · skip
        refine r_iconst C (v := nI 1) dX11_contract_87 (by decide) ?_
        refine r_goto C (t := 92) dX11_contract_88 (by decide) ?_
        refine V.eSt (st' := [.int (bI true)]) rfl ?_
        refine V.ei (y := bI (decide (un τ 9 9 ≠ 10))) (congrArg bI (by exact (decide_eq_true (by omega)).symm)) ?_
        exact jn92
    refine r_iload_n C 3 dX11_contract_37 rfl rfl ?_
    refine r_iload C 4 dX11_contract_38 rfl ?_
    refine r_icmp_gt C (t := 71) dX11_contract_40 (by decide) (fun c40 => ?_) (fun c40 => ?_)
    · skip
      refine r_iconst C (v := nI 0) dX11_contract_71 (by decide) ?_
      refine V.eSt (st' := [.int (bI false)]) rfl ?_
      refine V.ei (y := bI (decide (z ≤ t) && inB n (lN 60) (lN 600) && inB u (lN 0) (lN 1000000))) (congrArg bI (by rw [decide_eq_false (Int32.not_le.mpr c40)]; rfl)) ?_
      exact jn72
    · skip
      refine r_iload C 6 dX11_contract_43 rfl ?_
      refine r_bipush C (v := nI 60) dX11_contract_45 (by decide) ?_
      refine r_sipush C (v := nI 600) dX11_contract_47 (by decide) ?_
      refine r_callS C hgX ml_X11_59 st_X11_isWithin (c_X11_isWithin l hfl G M n (nI 60) (nI 600)) rfl (Nat.le_of_ble_eq_true rfl) ⟨Nat.le_of_ble_eq_true rfl, Nat.le_of_ble_eq_true rfl⟩ ⟨Nat.le_of_ble_eq_true rfl, Nat.le_of_ble_eq_true rfl⟩ dX11_contract_50 rfl ?_
      rintro _ _ ⟨rfl, rfl⟩
      refine V.eSt (st' := [.int (bI (inB n (nI 60).toInt64 (nI 600).toInt64))]) rfl ?_
      refine V.ei (y := bI (inB n (lN 60) (lN 600))) rfl ?_
      refine r_if_eqB C (t := 71) dX11_contract_53 (by decide) (fun c53 => ?_) (fun c53 => ?_)
      · skip
        refine r_iconst C (v := nI 0) dX11_contract_71 (by decide) ?_
        refine V.eSt (st' := [.int (bI false)]) rfl ?_
        refine V.ei (y := bI (decide (z ≤ t) && inB n (lN 60) (lN 600) && inB u (lN 0) (lN 1000000))) (congrArg bI (by rw [decide_eq_true (Int32.not_lt.mp c40), c53]; rfl)) ?_
        exact jn72
      · skip
        refine r_iload C 7 dX11_contract_56 rfl ?_
        refine r_iconst C (v := nI 0) dX11_contract_58 (by decide) ?_
        refine r_ldc C (v := 1000000) ki_X11_63 dX11_contract_59 ?_
        refine V.ei (y := nI 1000000) (by decide) ?_
        refine r_callS C hgX ml_X11_59 st_X11_isWithin (c_X11_isWithin l hfl G M u (nI 0) (nI 1000000)) rfl (Nat.le_of_ble_eq_true rfl) ⟨Nat.le_of_ble_eq_true rfl, Nat.le_of_ble_eq_true rfl⟩ ⟨Nat.le_of_ble_eq_true rfl, Nat.le_of_ble_eq_true rfl⟩ dX11_contract_61 rfl ?_
        rintro _ _ ⟨rfl, rfl⟩
        refine V.eSt (st' := [.int (bI (inB u (nI 0).toInt64 (nI 1000000).toInt64))]) rfl ?_
        refine V.ei (y := bI (inB u (lN 0) (lN 1000000))) rfl ?_
        refine r_if_eqB C (t := 71) dX11_contract_64 (by decide) (fun c64 => ?_) (fun c64 => ?_)
        · skip
          refine r_iconst C (v := nI 0) dX11_contract_71 (by decide) ?_
          refine V.eSt (st' := [.int (bI false)]) rfl ?_
          refine V.ei (y := bI (decide (z ≤ t) && inB n (lN 60) (lN 600) && inB u (lN 0) (lN 1000000))) (congrArg bI (by rw [decide_eq_true (Int32.not_lt.mp c40), c53, c64]; rfl)) ?_
          exact jn72
        · skip
          refine r_iconst C (v := nI 1) dX11_contract_67 (by decide) ?_
          refine r_goto C (t := 72) dX11_contract_68 (by decide) ?_
          refine V.eSt (st' := [.int (bI true)]) rfl ?_
          refine V.ei (y := bI (decide (z ≤ t) && inB n (lN 60) (lN 600) && inB u (lN 0) (lN 1000000))) (congrArg bI (by rw [decide_eq_true (Int32.not_lt.mp c40), c53, c64]; rfl)) ?_
          exact jn72
  refine r_iload_n C 1 dX11_contract_0 rfl rfl ?_
  refine r_callS C hgX ml_X11_45 st_X11_isPerson (c_X11_isPerson l hfl G M x) rfl (Nat.le_of_ble_eq_true rfl) ⟨Nat.le_of_ble_eq_true rfl, Nat.le_of_ble_eq_true rfl⟩ ⟨Nat.le_of_ble_eq_true rfl, Nat.le_of_ble_eq_true rfl⟩ dX11_contract_1 rfl ?_
  rintro _ _ ⟨rfl, rfl⟩
  refine V.eSt (st' := [.int (bI (rng x 6))]) rfl ?_
  refine r_if_eqB C (t := 33) dX11_contract_4 (by decide) (fun c4 => ?_) (fun c4 => ?_)
  · skip
    refine r_iconst C (v := nI 0) dX11_contract_33 (by decide) ?_
    refine V.eSt (st' := [.int (bI false)]) rfl ?_
    refine V.ei (y := bI (rng x 6 && rng y 3 && rng z 720 && rng t 720)) (congrArg bI (by simp [c4])) ?_
    exact jn34
  · skip
    refine r_iload_n C 2 dX11_contract_7 rfl rfl ?_
    refine r_callS C hgX ml_X11_49 st_X11_isPlace (c_X11_isPlace l hfl G M y) rfl (Nat.le_of_ble_eq_true rfl) ⟨Nat.le_of_ble_eq_true rfl, Nat.le_of_ble_eq_true rfl⟩ ⟨Nat.le_of_ble_eq_true rfl, Nat.le_of_ble_eq_true rfl⟩ dX11_contract_8 rfl ?_
    rintro _ _ ⟨rfl, rfl⟩
    refine V.eSt (st' := [.int (bI (rng y 3))]) rfl ?_
    refine r_if_eqB C (t := 33) dX11_contract_11 (by decide) (fun c11 => ?_) (fun c11 => ?_)
    · skip
      refine r_iconst C (v := nI 0) dX11_contract_33 (by decide) ?_
      refine V.eSt (st' := [.int (bI false)]) rfl ?_
      refine V.ei (y := bI (rng x 6 && rng y 3 && rng z 720 && rng t 720)) (congrArg bI (by simp [c4, c11])) ?_
      exact jn34
    · skip
      refine r_iload_n C 3 dX11_contract_14 rfl rfl ?_
      refine r_callS C hgX ml_X11_52 st_X11_isDay (c_X11_isDay l hfl G M z) rfl (Nat.le_of_ble_eq_true rfl) ⟨Nat.le_of_ble_eq_true rfl, Nat.le_of_ble_eq_true rfl⟩ ⟨Nat.le_of_ble_eq_true rfl, Nat.le_of_ble_eq_true rfl⟩ dX11_contract_15 rfl ?_
      rintro _ _ ⟨rfl, rfl⟩
      refine V.eSt (st' := [.int (bI (rng z 720))]) rfl ?_
      refine r_if_eqB C (t := 33) dX11_contract_18 (by decide) (fun c18 => ?_) (fun c18 => ?_)
      · skip
        refine r_iconst C (v := nI 0) dX11_contract_33 (by decide) ?_
        refine V.eSt (st' := [.int (bI false)]) rfl ?_
        refine V.ei (y := bI (rng x 6 && rng y 3 && rng z 720 && rng t 720)) (congrArg bI (by simp [c4, c11, c18])) ?_
        exact jn34
      · skip
        refine r_iload C 4 dX11_contract_21 rfl ?_
        refine r_callS C hgX ml_X11_52 st_X11_isDay (c_X11_isDay l hfl G M t) rfl (Nat.le_of_ble_eq_true rfl) ⟨Nat.le_of_ble_eq_true rfl, Nat.le_of_ble_eq_true rfl⟩ ⟨Nat.le_of_ble_eq_true rfl, Nat.le_of_ble_eq_true rfl⟩ dX11_contract_23 rfl ?_
        rintro _ _ ⟨rfl, rfl⟩
        refine V.eSt (st' := [.int (bI (rng t 720))]) rfl ?_
        refine r_if_eqB C (t := 33) dX11_contract_26 (by decide) (fun c26 => ?_) (fun c26 => ?_)
        · skip
          refine r_iconst C (v := nI 0) dX11_contract_33 (by decide) ?_
          refine V.eSt (st' := [.int (bI false)]) rfl ?_
          refine V.ei (y := bI (rng x 6 && rng y 3 && rng z 720 && rng t 720)) (congrArg bI (by simp [c4, c11, c18, c26])) ?_
          exact jn34
        · skip
          refine r_iconst C (v := nI 1) dX11_contract_29 (by decide) ?_
          refine r_goto C (t := 34) dX11_contract_30 (by decide) ?_
          refine V.eSt (st' := [.int (bI true)]) rfl ?_
          refine V.ei (y := bI (rng x 6 && rng y 3 && rng z 720 && rng t 720)) (congrArg bI (by simp [c4, c11, c18, c26])) ?_
          exact jn34

