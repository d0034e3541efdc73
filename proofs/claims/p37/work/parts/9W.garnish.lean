/-! garnish -/
set_option maxHeartbeats 1000000 in
set_option maxRecDepth 100000 in
theorem c_X11_garnish (l : Launch) (hfl : l.flags = flags0) (G : gW) (M : Mem) (τ : Mu) (hw : WF τ) (α : Nat → Nat) (hws : WS τ G α M) (hwt : WT τ α M) (hwb : WB τ α M) (had : ∀ p, p < 6 → AD τ p) (x y z t n u : Int32) : CX l yX11_garnish cX11_garnish 8 (some .int) 7 8 655 236 G M [.ref (α 0), .int x, .int y, .int z, .int t, .int n, .int u] (fun v M' => PC τ G α M (cd3 (rng x 6 && rng y 24) (inB z (lN 0) (lN 9) && inB t (lN 1) (lN 100000000) && inB n (lN 1) (lN 1000) && inB u (lN 0) (lN 100000000)) (decide (un τ 44 44 ≠ 6))) (sI (sI (sI (sI (sI (sI (sI τ 38 (un τ 44 44) x) 39 (un τ 44 44) y) 40 (un τ 44 44) z) 41 (un τ 44 44) t) 42 (un τ 44 44) n) 43 (un τ 44 44) u) 44 44 (nI (un τ 44 44 + 1))) (some (.int (nI (un τ 44 44)))) v M') (fun E M' => XP M (cd3 (rng x 6 && rng y 24) (inB z (lN 0) (lN 9) && inB t (lN 1) (lN 100000000) && inB n (lN 1) (lN 1000) && inB u (lN 0) (lN 100000000)) (decide (un τ 44 44 ≠ 6))) ["java/lang/IndexOutOfBoundsException", "java/lang/IllegalArgumentException", "java/lang/IllegalStateException"] E M') := by
  refine CX.of hfl rfl (Nat.le_of_ble_eq_true rfl) ?_
  intro pp ee ss mm ar bw mt cd C hgX hr hno
  have hx := hws.2.1
  have hwx := hwt.2.2.2.1
  have h9 := hw.nc.2
  have h13 := hw.sh.2
  have h17 := hw.nl.2
  have h26 := hw.ne.2
  have h44 := hw.ng.2
  have h46 := hw.op.2
  have h51 := hw.np.2
  refine V.eLo (lo' := [(0, .ref (α 0)), (1, .int x), (2, .int y), (3, .int z), (4, .int t), (5, .int n), (6, .int u)]) rfl ?_
  have jn19 : V pp l ee ({ frames := 7, cells := 8, slots := 655, locals := 236 } : Room) ss mm ar bw mt cd G (vx_MQ bw (Ke G (fun v M' => PC τ G α M (cd3 (rng x 6 && rng y 24) (inB z (lN 0) (lN 9) && inB t (lN 1) (lN 100000000) && inB n (lN 1) (lN 1000) && inB u (lN 0) (lN 100000000)) (decide (un τ 44 44 ≠ 6))) (sI (sI (sI (sI (sI (sI (sI τ 38 (un τ 44 44) x) 39 (un τ 44 44) y) 40 (un τ 44 44) z) 41 (un τ 44 44) t) 42 (un τ 44 44) n) 43 (un τ 44 44) u) 44 44 (nI (un τ 44 44 + 1))) (some (.int (nI (un τ 44 44)))) v M')) (Kx G (fun E M' => XP M (cd3 (rng x 6 && rng y 24) (inB z (lN 0) (lN 9) && inB t (lN 1) (lN 100000000) && inB n (lN 1) (lN 1000) && inB u (lN 0) (lN 100000000)) (decide (un τ 44 44 ≠ 6))) ["java/lang/IndexOutOfBoundsException", "java/lang/IllegalArgumentException", "java/lang/IllegalStateException"] E M')) ar ss 8 655 (gA G)) 8 M 0 0 19 [(0, .ref (α 0)), (1, .int x), (2, .int y), (3, .int z), (4, .int t), (5, .int n), (6, .int u)] [.int (bI (rng x 6 && rng y 24))] := by
    skip
    refine r_xS C hgX hno ml_X11_55 st_X11_needThere (c_X11_needThere l hfl G M (rng x 6 && rng y 24)) rfl (Nat.le_of_ble_eq_true rfl) ⟨Nat.le_of_ble_eq_true rfl, Nat.le_of_ble_eq_true rfl⟩ ⟨Nat.le_of_ble_eq_true rfl, Nat.le_of_ble_eq_true rfl⟩ dX11_garnish_19 rfl (fun E_ M_ h_ => x_3a h_) ⟨Nat.le_of_ble_eq_true rfl, Nat.le_of_ble_eq_true rfl⟩ ?_
    rintro _ _ ⟨rfl, rfl, hq1⟩
    have hq := hq1
    have jn48 : V pp l ee ({ frames := 7, cells := 8, slots := 655, locals := 236 } : Room) ss mm ar bw mt cd G (vx_MQ bw (Ke G (fun v M' => PC τ G α M (cd3 (rng x 6 && rng y 24) (inB z (lN 0) (lN 9) && inB t (lN 1) (lN 100000000) && inB n (lN 1) (lN 1000) && inB u (lN 0) (lN 100000000)) (decide (un τ 44 44 ≠ 6))) (sI (sI (sI (sI (sI (sI (sI τ 38 (un τ 44 44) x) 39 (un τ 44 44) y) 40 (un τ 44 44) z) 41 (un τ 44 44) t) 42 (un τ 44 44) n) 43 (un τ 44 44) u) 44 44 (nI (un τ 44 44 + 1))) (some (.int (nI (un τ 44 44)))) v M')) (Kx G (fun E M' => XP M (cd3 (rng x 6 && rng y 24) (inB z (lN 0) (lN 9) && inB t (lN 1) (lN 100000000) && inB n (lN 1) (lN 1000) && inB u (lN 0) (lN 100000000)) (decide (un τ 44 44 ≠ 6))) ["java/lang/IndexOutOfBoundsException", "java/lang/IllegalArgumentException", "java/lang/IllegalStateException"] E M')) ar ss 8 655 (gA G)) 8 M 1 6 48 [(0, .ref (α 0)), (1, .int x), (2, .int y), (3, .int z), (4, .int t), (5, .int n), (6, .int u)] [.int (bI (inB z (lN 0) (lN 9) && inB t (lN 1) (lN 100000000)))] := by
      skip
      refine r_xS C hgX hno ml_X11_64 st_X11_needFitting (c_X11_needFitting l hfl G M (inB z (lN 0) (lN 9) && inB t (lN 1) (lN 100000000))) rfl (Nat.le_of_ble_eq_true rfl) ⟨Nat.le_of_ble_eq_true rfl, Nat.le_of_ble_eq_true rfl⟩ ⟨Nat.le_of_ble_eq_true rfl, Nat.le_of_ble_eq_true rfl⟩ dX11_garnish_48 rfl (fun E_ M_ h_ => x_3b hq ⟨by rw [h_.1]; rfl, h_.2⟩) ⟨Nat.le_of_ble_eq_true rfl, Nat.le_of_ble_eq_true rfl⟩ ?_
      rintro _ _ ⟨rfl, rfl, hq2⟩
      have hq2a := hq2
      have jn79 : V pp l ee ({ frames := 7, cells := 8, slots := 655, locals := 236 } : Room) ss mm ar bw mt cd G (vx_MQ bw (Ke G (fun v M' => PC τ G α M (cd3 (rng x 6 && rng y 24) (inB z (lN 0) (lN 9) && inB t (lN 1) (lN 100000000) && inB n (lN 1) (lN 1000) && inB u (lN 0) (lN 100000000)) (decide (un τ 44 44 ≠ 6))) (sI (sI (sI (sI (sI (sI (sI τ 38 (un τ 44 44) x) 39 (un τ 44 44) y) 40 (un τ 44 44) z) 41 (un τ 44 44) t) 42 (un τ 44 44) n) 43 (un τ 44 44) u) 44 44 (nI (un τ 44 44 + 1))) (some (.int (nI (un τ 44 44)))) v M')) (Kx G (fun E M' => XP M (cd3 (rng x 6 && rng y 24) (inB z (lN 0) (lN 9) && inB t (lN 1) (lN 100000000) && inB n (lN 1) (lN 1000) && inB u (lN 0) (lN 100000000)) (decide (un τ 44 44 ≠ 6))) ["java/lang/IndexOutOfBoundsException", "java/lang/IllegalArgumentException", "java/lang/IllegalStateException"] E M')) ar ss 8 655 (gA G)) 8 M 2 12 79 [(0, .ref (α 0)), (1, .int x), (2, .int y), (3, .int z), (4, .int t), (5, .int n), (6, .int u)] [.int (bI (inB n (lN 1) (lN 1000) && inB u (lN 0) (lN 100000000)))] := by
        skip
        refine r_xS C hgX hno ml_X11_64 st_X11_needFitting (c_X11_needFitting l hfl G M (inB n (lN 1) (lN 1000) && inB u (lN 0) (lN 100000000))) rfl (Nat.le_of_ble_eq_true rfl) ⟨Nat.le_of_ble_eq_true rfl, Nat.le_of_ble_eq_true rfl⟩ ⟨Nat.le_of_ble_eq_true rfl, Nat.le_of_ble_eq_true rfl⟩ dX11_garnish_79 rfl (fun E_ M_ h_ => x_3b hq ⟨by rw [Bool.and_assoc, h_.1, Bool.and_false], h_.2⟩) ⟨Nat.le_of_ble_eq_true rfl, Nat.le_of_ble_eq_true rfl⟩ ?_
        rintro _ _ ⟨rfl, rfl, hq3⟩
        have hq2b := hq3
        have jn99 : V pp l ee ({ frames := 7, cells := 8, slots := 655, locals := 236 } : Room) ss mm ar bw mt cd G (vx_MQ bw (Ke G (fun v M' => PC τ G α M (cd3 (rng x 6 && rng y 24) (inB z (lN 0) (lN 9) && inB t (lN 1) (lN 100000000) && inB n (lN 1) (lN 1000) && inB u (lN 0) (lN 100000000)) (decide (un τ 44 44 ≠ 6))) (sI (sI (sI (sI (sI (sI (sI τ 38 (un τ 44 44) x) 39 (un τ 44 44) y) 40 (un τ 44 44) z) 41 (un τ 44 44) t) 42 (un τ 44 44) n) 43 (un τ 44 44) u) 44 44 (nI (un τ 44 44 + 1))) (some (.int (nI (un τ 44 44)))) v M')) (Kx G (fun E M' => XP M (cd3 (rng x 6 && rng y 24) (inB z (lN 0) (lN 9) && inB t (lN 1) (lN 100000000) && inB n (lN 1) (lN 1000) && inB u (lN 0) (lN 100000000)) (decide (un τ 44 44 ≠ 6))) ["java/lang/IndexOutOfBoundsException", "java/lang/IllegalArgumentException", "java/lang/IllegalStateException"] E M')) ar ss 8 655 (gA G)) 8 M 3 18 99 [(0, .ref (α 0)), (1, .int x), (2, .int y), (3, .int z), (4, .int t), (5, .int n), (6, .int u)] [.int (bI (decide (un τ 44 44 ≠ 6)))] := by
          skip
          refine r_xS C hgX hno ml_X11_71 st_X11_needAllowed (c_X11_needAllowed l hfl G M (decide (un τ 44 44 ≠ 6))) rfl (Nat.le_of_ble_eq_true rfl) ⟨Nat.le_of_ble_eq_true rfl, Nat.le_of_ble_eq_true rfl⟩ ⟨Nat.le_of_ble_eq_true rfl, Nat.le_of_ble_eq_true rfl⟩ dX11_garnish_99 rfl (fun E_ M_ h_ => x_3c hq (by rw [Bool.and_assoc, hq2a, hq2b]; rfl) h_) ⟨Nat.le_of_ble_eq_true rfl, Nat.le_of_ble_eq_true rfl⟩ ?_
          rintro _ _ ⟨rfl, rfl, hq4⟩
          have hq3 := hq4
          have hn6 : un τ 44 44 ≠ 6 := of_decide_eq_true hq3
          obtain ⟨hqa, hqb⟩ := Bool.and_eq_true_iff.mp hq
          obtain ⟨p, hp, e_x⟩ := rng_t hqa
          obtain ⟨m, hm, e_y⟩ := rng_t hqb
          obtain ⟨hqc, hqd⟩ := Bool.and_eq_true_iff.mp hq2a
          obtain ⟨hqe, hqf⟩ := Bool.and_eq_true_iff.mp hq2b
          obtain ⟨r, hr0, hr9, e_z⟩ := inB_N (by decide) (by decide) hqc
          obtain ⟨tt, ht0, ht, e_t⟩ := inB_N (by decide) (by decide) hqd
          obtain ⟨hh, hh0, hhh, e_n⟩ := inB_N (by decide) (by decide) hqe
          obtain ⟨qq, hqq0, hqq, e_u⟩ := inB_N (by decide) (by decide) hqf
          have hq2 : (inB z (lN 0) (lN 9) && inB t (lN 1) (lN 100000000) && inB n (lN 1) (lN 1000) && inB u (lN 0) (lN 100000000)) = true := by rw [Bool.and_assoc, hq2a, hq2b]; rfl
          obtain ⟨sz, el, ix, hlw⟩ := hws.ls
          refine V.eLo (lo' := [(0, .ref (α 0)), (1, .int (nI p)), (2, .int (nI m)), (3, .int (nI r)), (4, .int (nI tt)), (5, .int (nI hh)), (6, .int (nI qq))]) (by rw [e_x, e_y, e_z, e_t, e_n, e_u]) ?_
          refine V.mark C (fun zz hgz hz => ?_)
          refine r_new C (q := zz) nl_X11_282 (hgz) (hz _ (Nat.le_refl _)) (va_up_self _ _ _) (Nat.le_of_ble_eq_true rfl) (Nat.le_of_ble_eq_true rfl) dX11_garnish_102 ?_
          have hC := NB.cell (T := tbGa) (e0 := gS G 0) (M := mMk M zz) (q := zz) hz (κ := 8) ⟨rfl, rfl⟩
          generalize (wMk (mMk M zz) zz 8 0) = Mc5 at hC ⊢
          refine r_dup C dX11_garnish_105 rfl ?_
          refine r_iload_n C 1 dX11_garnish_106 rfl rfl ?_
          refine r_iload_n C 2 dX11_garnish_107 rfl rfl ?_
          refine r_iload_n C 3 dX11_garnish_108 rfl rfl ?_
          refine r_iload C 4 dX11_garnish_109 rfl ?_
          refine r_iload C 5 dX11_garnish_111 rfl ?_
          refine r_iload C 6 dX11_garnish_113 rfl ?_
          refine r_callI C hgX ml_X11_284 im_X5_init rfl (c_X5_init l hfl G Mc5 (mMk M zz) zz (by omega) hC (nI p) (nI m) (nI r) (nI tt) (nI hh) (nI qq)) rfl (Nat.le_of_ble_eq_true rfl) ⟨Nat.le_of_ble_eq_true rfl, Nat.le_of_ble_eq_true rfl⟩ ⟨Nat.le_of_ble_eq_true rfl, Nat.le_of_ble_eq_true rfl⟩ dX11_garnish_115 rfl ?_
          rintro _ My6 ⟨rfl, hS⟩
          have hk02 : ∀ A B, KP A B M My6 := fun A B => (KP.mk hz).tr (hS.kp hz)
          have hlz2 : LZ G α My6 sz el := hlw.1.kp (hk02 (fun _ => False) (fun _ => False)) (fun _ _ h => h) (fun _ _ h => h)
          have hX2 := hws.xk (hk02 (fun _ => False) (fun _ => False)) (fun _ _ _ h => h)
          have hx := hX2.1
          have hkz2 : mK My6 zz = 8 := (hS.1 0 (by decide)).1
          have hL2 : LI G My6 7 (α 27) (sz 27) (el 27) := hlz2.1 27 (.inr (.inl rfl))
          have hsz1 : sz 27 = un τ 44 44 := hlw.2.2.1.1
          refine r_astore C (lo' := [(7, .ref zz), (0, .ref (α 0)), (1, .int (nI p)), (2, .int (nI m)), (3, .int (nI r)), (4, .int (nI tt)), (5, .int (nI hh)), (6, .int (nI qq))]) dX11_garnish_118 (by decide) rfl ?_
          refine r_aload_n C 1 dX11_garnish_120 rfl rfl ?_
          refine r_getR C (b := (α 27)) fl_X11_35 rfl (hx.k 0 14 rfl) (hx.r 0 4 27 rfl) dX11_garnish_121 ?_
          refine r_aload C 0 dX11_garnish_124 rfl ?_
          refine V.stat hgX (fun hst2 => ?_)
          refine r_callV C hgX (ci := 2) ml_X11_89 im_Jx4a65c_add_9ea2d se_Jx4a65c_add_9ea2d rfl rfl (hx.k 27 3 rfl) (c_Jx4a65c_add_9ea2d l hfl G My6 7 (α 27) (sz 27) (el 27) _ rfl (by decide) hL2 (by omega) zz hkz2) rfl (Nat.le_of_ble_eq_true rfl) ⟨Nat.le_of_ble_eq_true rfl, Nat.le_of_ble_eq_true rfl⟩ ⟨Nat.le_of_ble_eq_true rfl, Nat.le_of_ble_eq_true rfl⟩ dX11_garnish_126 rfl ?_
          rintro _ My7 ⟨rfl, d7, hd7, hLI7, hLF7⟩
          refine V.eSt (st' := [.int (nI 1)]) rfl ?_
          have hk23 : KP (LX α (fun k => k = 27 ∨ k = 29 + 57 * p + 3)) (LB α (fun k => k = 27 ∨ k = 29 + 57 * p + 3) My6) My6 My7 := (KP.rf).lfb hst2 hL2 hd7 hLF7 ⟨27, .inr (.inl rfl), .inl rfl, rfl⟩ (fun x hx => hx.elim (fun h => .inl ⟨27, .inr (.inl rfl), .inl rfl, h⟩) .inr)
          have hlz3 := hlz2.add (fun i j hi hj => hws.1 i j hi.lv hj.lv) (.inr (.inl rfl)) hd7 hst2 hLI7 hLF7
          have hk03 := KP.join hk02 hk23
          have hX3 := hws.xk hk03 (fun k hk hn => LB.no hws hk (fun z => hn z.1))
          have hx := hX3.1
          have hbp := (hX3.2 p hp).1
          have hL3 : LI G My7 7 (hO α p 3) (sz (29 + 57 * p + 3)) (el (29 + 57 * p + 3)) := by have h := hlz3.oth (lc_p hp (show 1 ≤ 3 by decide) (by decide)) (by omega); rw [lsC_p hp (by decide) (by decide)] at h; exact h
          obtain ⟨hEG, helg⟩ := (hlw.2.2.2.2 p hp).2.2
          have hszp : sz (29 + 57 * p + 3) ≤ un τ 44 44 := hEG.le
          have hz3 : mK My7 zz = 8 ∧ mI My7 zz 2 = nI r := by
                      have nx : ¬ LX α (fun k => k = 27 ∨ k = 29 + 57 * p + 3) zz := fun ⟨k, h1, _, e⟩ => hws.kn h1.lv (hz _ (Nat.le_of_eq e))
                      have g := hk23 zz (by rw [hkz2]; decide)
                      exact ⟨g.1.trans hkz2, (congrFun (g.2.2.1 nx).1 2).trans (congrFun (hS.2.2.2.2.1 0 (by decide)).1 2)⟩
          have hrk : ∀ i, i < sz (29 + 57 * p + 3) → mI My7 (el (29 + 57 * p + 3) i) 2 = nI (un τ 40 (ix (29 + 57 * p + 3) i)) ∧ un τ 40 (ix (29 + 57 * p + 3) i) < 2 ^ 30 := fun i hi => by
                      have h1 := (hEG.1 i hi).1
                      have g := (hwt.2.2.2.2.2.1 _ h1).2.2.1
                      have b := (hw.gr _ h1).2
                      rw [helg]
                      refine ⟨(congrFun ((hk03 _ (hws.kn (lv_a h1 (show 0 < 2 by decide)))).2.2.1 (LX.no hws (lv_a h1 (by decide)) (fun z => by have := z.1.lt; omega))).1 2).trans g, by omega⟩
          refine r_pop C dX11_garnish_129 rfl ?_
          refine r_aload_n C 1 dX11_garnish_130 rfl rfl ?_
          refine r_getR C (b := (α 2)) fl_X11_18 rfl (hx.k 0 14 rfl) (hx.r 0 1 2 rfl) dX11_garnish_131 ?_
          refine r_iload_n C 2 dX11_garnish_134 rfl rfl ?_
          refine r_aaloadN C (b := (hO α p 0)) 1 (by decide) (hx.k 2 24 rfl) (hx.n 2 6 rfl) (by omega) (by omega) (hX3.2 p (by omega)).2 dX11_garnish_135 ?_
          refine r_aload C 0 dX11_garnish_136 rfl ?_
          refine V.stat hgX (fun hst3 => ?_)
          refine r_callV C hgX (ci := 10) ml_X11_287 im_X8_tellGarnishment se_X8_tellGarnishment rfl rfl (hbp.k 0 11 rfl) (c_X8_tellGarnishment l hfl G My7 (hO α p) hbp (sz (29 + 57 * p + 3)) (el (29 + 57 * p + 3)) (fun i => un τ 40 (ix (29 + 57 * p + 3) i)) hL3 (by omega) hrk zz r hz3.1 hz3.2 (by omega)) rfl (Nat.le_of_ble_eq_true rfl) ⟨Nat.le_of_ble_eq_true rfl, Nat.le_of_ble_eq_true rfl⟩ ⟨Nat.le_of_ble_eq_true rfl, Nat.le_of_ble_eq_true rfl⟩ dX11_garnish_138 rfl ?_
          rintro _ My8 ⟨rfl, k8, hk8, hge8, hle8, d8, hd8, hLI8, hLF8⟩
          have hk24 : KP (LX α (fun k => k = 27 ∨ k = 29 + 57 * p + 3)) (LB α (fun k => k = 27 ∨ k = 29 + 57 * p + 3) My6) My6 My8 := hk23.lfb hst3 hL3 hd8 hLF8 ⟨29 + 57 * p + 3, lc_p hp (by decide) (by decide), .inr rfl, rfl⟩ (fun x hx => hx.elim (fun h => .inl ⟨29 + 57 * p + 3, lc_p hp (by decide) (by decide), .inr rfl, h⟩) .inr)
          have hlz4 := hlz3.add (fun i j hi hj => hws.1 i j hi.lv hj.lv) (lc_p hp (show 1 ≤ 3 by decide) (by decide)) hd8 hst3 (by rw [lsC_p hp (by decide) (by decide)]; exact hLI8) hLF8
          obtain ⟨hWD, hk04⟩ := ga_w hw hws hwt hwb hn6 hp (show m ≤ 23 by omega) hr9 ht hhh hqq hz hS hlw hk24 hk8 hge8 hle8 hlz4
          have hX3 := hws.xk hk04 (fun k hk hn => LB.no hws hk (fun z => hn z.1))
          have hx := hX3.1
          have hbp := (hX3.2 p hp).1
          have hbk := hbp.sub tbBk 15 rfl
          have hL5 := (hlz4.oth (.inr (.inl rfl)) (show (27 : Nat) ≠ 29 + 57 * p + 3 by omega))
          have hsz5 : mI (wI My8 (bO α p 0) 0 (nI 1)) (α 27) 2 = nI (un τ 44 44 + 1) := (congrFun (wI_a (hws.1.ne (lv_s (by decide)) (lv_b hp (by decide)) (by omega))) 2).trans (hL5.2.1.trans (by rw [← hsz1]; rfl))
          refine r_aload_n C 1 dX11_garnish_141 rfl rfl ?_
          refine r_getR C (b := (α 2)) fl_X11_18 rfl (hx.k 0 14 rfl) (hx.r 0 1 2 rfl) dX11_garnish_142 ?_
          refine r_iload_n C 2 dX11_garnish_145 rfl rfl ?_
          refine r_aaloadN C (b := (hO α p 0)) 1 (by decide) (hx.k 2 24 rfl) (hx.n 2 6 rfl) (by omega) (by omega) (hX3.2 p (by omega)).2 dX11_garnish_146 ?_
          refine r_getR C (b := (bO α p 0)) fl_X11_94 rfl (hbp.k 0 11 rfl) (hbp.r 0 10 15 rfl) dX11_garnish_147 ?_
          refine r_iconst C (v := nI 1) dX11_garnish_150 (by decide) ?_
          refine r_putZ C fl_X11_98 (by decide) (hbk.k 0 4 rfl) dX11_garnish_151 ?_
          refine r_aload_n C 1 dX11_garnish_154 rfl rfl ?_
          refine r_getR C (b := (α 27)) fl_X11_35 rfl (hx.k 0 14 rfl) (hx.r 0 4 27 rfl) dX11_garnish_155 ?_
          refine r_callV C hgX (ci := 2) ml_X11_67 im_Jx4a65c_size_8abf5 se_Jx4a65c_size_8abf5 rfl rfl (show mK (wI My8 (bO α p 0) 0 (nI 1)) (α 27) = 2 + 1 from (hx.k 27 3 rfl)) (c_Jx4a65c_size_8abf5 l hfl G (wI My8 (bO α p 0) 0 (nI 1)) (α 27) (un τ 44 44 + 1) hL5.1 hsz5) rfl (Nat.le_of_ble_eq_true rfl) ⟨Nat.le_of_ble_eq_true rfl, Nat.le_of_ble_eq_true rfl⟩ ⟨Nat.le_of_ble_eq_true rfl, Nat.le_of_ble_eq_true rfl⟩ dX11_garnish_158 rfl ?_
          rintro _ _ ⟨rfl, rfl⟩
          refine V.eSt (st' := [.int (nI (un τ 44 44 + 1))]) rfl ?_
          refine r_iconst C (v := nI 1) dX11_garnish_161 (by decide) ?_
          refine r_isubN C (by omega) dX11_garnish_162 ?_
          refine V.xret ?_
          exact r_iret C hr (⟨k_3 hq hq2 hq3, rfl, nw α (1100 + 2 * un τ 44 44) 2 zz, by rw [e_x, e_y, e_z, e_t, e_n, e_u]; exact hWD, nw_o (by omega), cf_new hp hk04, XO.grow hz (fun k_ hk_ => LV.g ((congrArg Int32.toNatClampNeg sI_s).trans (nI_clamp (n := un τ 44 44 + 1) (by omega))) rfl rfl rfl hk_)⟩) (by first | exact Nat.zero_le _ | decide) (by first | exact Nat.zero_le _ | decide) dX11_garnish_163
        refine r_aload_n C 0 dX11_garnish_82 rfl rfl ?_
        refine r_getR C (b := (α 27)) fl_X11_35 rfl (hx.k 0 14 rfl) (hx.r 0 4 27 rfl) dX11_garnish_83 ?_
        refine r_callV C hgX (ci := 2) ml_X11_67 im_Jx4a65c_size_8abf5 se_Jx4a65c_size_8abf5 rfl rfl (hx.k 27 3 rfl) (c_Jx4a65c_size_8abf5 l hfl G M (α 27) (un τ 44 44) hws.2.2.2.2.2.2.2.2.2.1.1 hws.2.2.2.2.2.2.2.2.2.1.2.1) rfl (Nat.le_of_ble_eq_true rfl) ⟨Nat.le_of_ble_eq_true rfl, Nat.le_of_ble_eq_true rfl⟩ ⟨Nat.le_of_ble_eq_true rfl, Nat.le_of_ble_eq_true rfl⟩ dX11_garnish_86 rfl ?_
        rintro _ _ ⟨rfl, rfl⟩
        refine V.eSt (st' := [.int (nI (un τ 44 44))]) rfl ?_
        refine r_bipush C (v := nI 6) dX11_garnish_89 (by decide) ?_
        refine r_icmp_geN C (t := 98) (by omega) (by omega) dX11_garnish_91 (by decide) (fun c91 => ?_) (fun c91 => ?_)
        · skip
          refine r_iconst C (v := nI 0) dX11_garnish_98 (by decide) ?_
          refine V.eSt (st' := [.int (bI false)]) rfl ?_
          refine V.ei (y := bI (decide (un τ 44 44 ≠ 6))) (congrArg bI (by exact (decide_eq_false (by omega)).symm)) ?_
          exact jn99
        · skip
          refine r_iconst C (v := nI 1) dX11_garnish_94 (by decide) ?_
          refine r_goto C (t := 99) dX11_garnish_95 (by decide) ?_
          refine V.eSt (st' := [.int (bI true)]) rfl ?_
          refine V.ei (y := bI (decide (un τ 44 44 ≠ 6))) (congrArg bI (by exact (decide_eq_true (by omega)).symm)) ?_
          exact jn99
      refine r_iload C 5 dX11_garnish_51 rfl ?_
      refine r_iconst C (v := nI 1) dX11_garnish_53 (by decide) ?_
      refine r_sipush C (v := nI 1000) dX11_garnish_54 (by decide) ?_
      refine r_callS C hgX ml_X11_59 st_X11_isWithin (c_X11_isWithin l hfl G M n (nI 1) (nI 1000)) rfl (Nat.le_of_ble_eq_true rfl) ⟨Nat.le_of_ble_eq_true rfl, Nat.le_of_ble_eq_true rfl⟩ ⟨Nat.le_of_ble_eq_true rfl, Nat.le_of_ble_eq_true rfl⟩ dX11_garnish_57 rfl ?_
      rintro _ _ ⟨rfl, rfl⟩
      refine V.eSt (st' := [.int (bI (inB n (nI 1).toInt64 (nI 1000).toInt64))]) rfl ?_
      refine V.ei (y := bI (inB n (lN 1) (lN 1000))) rfl ?_
      refine r_if_eqB C (t := 78) dX11_garnish_60 (by decide) (fun c60 => ?_) (fun c60 => ?_)
      · skip
        refine r_iconst C (v := nI 0) dX11_garnish_78 (by decide) ?_
        refine V.eSt (st' := [.int (bI false)]) rfl ?_
        refine V.ei (y := bI (inB n (lN 1) (lN 1000) && inB u (lN 0) (lN 100000000))) (congrArg bI (by simp [c60])) ?_
        exact jn79
      · skip
        refine r_iload C 6 dX11_garnish_63 rfl ?_
        refine r_iconst C (v := nI 0) dX11_garnish_65 (by decide) ?_
        refine r_ldc C (v := 100000000) ki_X11_219 dX11_garnish_66 ?_
        refine V.ei (y := nI 100000000) (by decide) ?_
        refine r_callS C hgX ml_X11_59 st_X11_isWithin (c_X11_isWithin l hfl G M u (nI 0) (nI 100000000)) rfl (Nat.le_of_ble_eq_true rfl) ⟨Nat.le_of_ble_eq_true rfl, Nat.le_of_ble_eq_true rfl⟩ ⟨Nat.le_of_ble_eq_true rfl, Nat.le_of_ble_eq_true rfl⟩ dX11_garnish_68 rfl ?_
        rintro _ _ ⟨rfl, rfl⟩
        refine V.eSt (st' := [.int (bI (inB u (nI 0).toInt64 (nI 100000000).toInt64))]) rfl ?_
        refine V.ei (y := bI (inB u (lN 0) (lN 100000000))) rfl ?_
        refine r_if_eqB C (t := 78) dX11_garnish_71 (by decide) (fun c71 => ?_) (fun c71 => ?_)
        · skip
          refine r_iconst C (v := nI 0) dX11_garnish_78 (by decide) ?_
          refine V.eSt (st' := [.int (bI false)]) rfl ?_
          refine V.ei (y := bI (inB n (lN 1) (lN 1000) && inB u (lN 0) (lN 100000000))) (congrArg bI (by simp [c60, c71])) ?_
          exact jn79
        · skip
          refine r_iconst C (v := nI 1) dX11_garnish_74 (by decide) ?_
          refine r_goto C (t := 79) dX11_garnish_75 (by decide) ?_
          refine V.eSt (st' := [.int (bI true)]) rfl ?_
          refine V.ei (y := bI (inB n (lN 1) (lN 1000) && inB u (lN 0) (lN 100000000))) (congrArg bI (by simp [c60, c71])) ?_
          exact jn79
    refine r_iload_n C 3 dX11_garnish_22 rfl rfl ?_
    refine r_iconst C (v := nI 0) dX11_garnish_23 (by decide) ?_
    refine r_bipush C (v := nI 9) dX11_garnish_24 (by decide) ?_
    refine r_callS C hgX ml_X11_59 st_X11_isWithin (c_X11_isWithin l hfl G M z (nI 0) (nI 9)) rfl (Nat.le_of_ble_eq_true rfl) ⟨Nat.le_of_ble_eq_true rfl, Nat.le_of_ble_eq_true rfl⟩ ⟨Nat.le_of_ble_eq_true rfl, Nat.le_of_ble_eq_true rfl⟩ dX11_garnish_26 rfl ?_
    rintro _ _ ⟨rfl, rfl⟩
    refine V.eSt (st' := [.int (bI (inB z (nI 0).toInt64 (nI 9).toInt64))]) rfl ?_
    refine V.ei (y := bI (inB z (lN 0) (lN 9))) rfl ?_
    refine r_if_eqB C (t := 47) dX11_garnish_29 (by decide) (fun c29 => ?_) (fun c29 => ?_)
    · skip
      refine r_iconst C (v := nI 0) dX11_garnish_47 (by decide) ?_
      refine V.eSt (st' := [.int (bI false)]) rfl ?_
      refine V.ei (y := bI (inB z (lN 0) (lN 9) && inB t (lN 1) (lN 100000000))) (congrArg bI (by simp [c29])) ?_
      exact jn48
    · skip
      refine r_iload C 4 dX11_garnish_32 rfl ?_
      refine r_iconst C (v := nI 1) dX11_garnish_34 (by decide) ?_
      refine r_ldc C (v := 100000000) ki_X11_219 dX11_garnish_35 ?_
      refine V.ei (y := nI 100000000) (by decide) ?_
      refine r_callS C hgX ml_X11_59 st_X11_isWithin (c_X11_isWithin l hfl G M t (nI 1) (nI 100000000)) rfl (Nat.le_of_ble_eq_true rfl) ⟨Nat.le_of_ble_eq_true rfl, Nat.le_of_ble_eq_true rfl⟩ ⟨Nat.le_of_ble_eq_true rfl, Nat.le_of_ble_eq_true rfl⟩ dX11_garnish_37 rfl ?_
      rintro _ _ ⟨rfl, rfl⟩
      refine V.eSt (st' := [.int (bI (inB t (nI 1).toInt64 (nI 100000000).toInt64))]) rfl ?_
      refine V.ei (y := bI (inB t (lN 1) (lN 100000000))) rfl ?_
      refine r_if_eqB C (t := 47) dX11_garnish_40 (by decide) (fun c40 => ?_) (fun c40 => ?_)
      · skip
        refine r_iconst C (v := nI 0) dX11_garnish_47 (by decide) ?_
        refine V.eSt (st' := [.int (bI false)]) rfl ?_
        refine V.ei (y := bI (inB z (lN 0) (lN 9) && inB t (lN 1) (lN 100000000))) (congrArg bI (by simp [c29, c40])) ?_
        exact jn48
      · skip
        refine r_iconst C (v := nI 1) dX11_garnish_43 (by decide) ?_
        refine r_goto C (t := 48) dX11_garnish_44 (by decide) ?_
        refine V.eSt (st' := [.int (bI true)]) rfl ?_
        refine V.ei (y := bI (inB z (lN 0) (lN 9) && inB t (lN 1) (lN 100000000))) (congrArg bI (by simp [c29, c40])) ?_
        exact jn48
  refine r_iload_n C 1 dX11_garnish_0 rfl rfl ?_
  refine r_callS C hgX ml_X11_45 st_X11_isPerson (c_X11_isPerson l hfl G M x) rfl (Nat.le_of_ble_eq_true rfl) ⟨Nat.le_of_ble_eq_true rfl, Nat.le_of_ble_eq_true rfl⟩ ⟨Nat.le_of_ble_eq_true rfl, Nat.le_of_ble_eq_true rfl⟩ dX11_garnish_1 rfl ?_
  rintro _ _ ⟨rfl, rfl⟩
  refine V.eSt (st' := [.int (bI (rng x 6))]) rfl ?_
  refine r_if_eqB C (t := 18) dX11_garnish_4 (by decide) (fun c4 => ?_) (fun c4 => ?_)
  · skip
    refine r_iconst C (v := nI 0) dX11_garnish_18 (by decide) ?_
    refine V.eSt (st' := [.int (bI false)]) rfl ?_
    refine V.ei (y := bI (rng x 6 && rng y 24)) (congrArg bI (by simp [c4])) ?_
    exact jn19
  · skip
    refine r_iload_n C 2 dX11_garnish_7 rfl rfl ?_
    refine r_callS C hgX ml_X11_141 st_X11_isMonth (c_X11_isMonth l hfl G M y) rfl (Nat.le_of_ble_eq_true rfl) ⟨Nat.le_of_ble_eq_true rfl, Nat.le_of_ble_eq_true rfl⟩ ⟨Nat.le_of_ble_eq_true rfl, Nat.le_of_ble_eq_true rfl⟩ dX11_garnish_8 rfl ?_
    rintro _ _ ⟨rfl, rfl⟩
    refine V.eSt (st' := [.int (bI (rng y 24))]) rfl ?_
    refine r_if_eqB C (t := 18) dX11_garnish_11 (by decide) (fun c11 => ?_) (fun c11 => ?_)
    · skip
      refine r_iconst C (v := nI 0) dX11_garnish_18 (by decide) ?_
      refine V.eSt (st' := [.int (bI false)]) rfl ?_
      refine V.ei (y := bI (rng x 6 && rng y 24)) (congrArg bI (by simp [c4, c11])) ?_
      exact jn19
    · skip
      refine r_iconst C (v := nI 1) dX11_garnish_14 (by decide) ?_
      refine r_goto C (t := 19) dX11_garnish_15 (by decide) ?_
      refine V.eSt (st' := [.int (bI true)]) rfl ?_
      refine V.ei (y := bI (rng x 6 && rng y 24)) (congrArg bI (by simp [c4, c11])) ?_
      exact jn19

