set_option maxHeartbeats 4000000 in
set_option maxRecDepth 100000 in
theorem c_X12_slips (l : Launch) (hfl : l.flags = flags0) (G : gW) (M : Mem) (mb : Nat) (τ : Mu) (hm : MOK (mK M) (mN M) (mR M) mb) (ht : TE (mI M) (mL M) mb τ) (hw : WF τ) (p : Nat) (hp : p < 6) (hlb : LTB M mb) : CT l yX12_slips cX12_slips 11 none 5 0 0 134 G M [.ref mb, .int (nI p)] (fun v M' => v = none ∧ fOut [16, 21, 28, 29, 55, 56, 57, 58, 59, 60, 61, 62, 63, 64, 65, 66] mb M M' ∧ (∀ k, k < 24 → BKm τ p M' mb k) ∧ LTB M' mb) := by
  refine CT.of hfl rfl (Nat.le_of_ble_eq_true rfl) ?_
  intro pp ee ss mm ar bw mt cd C hgX hr hini
  have hnc := hw.nc.2
  have hsh := hw.sh.2
  have hnl := hw.nl.2
  have hne := hw.ne.2
  have hng := hw.ng.2
  have hop := hw.op.2
  have hnp := hw.np.2
  have ht0 := ht
  have hm0 := hm
  refine V.eLo (lo' := [(0, .ref mb), (1, .int (nI p))]) rfl ?_
  refine r_aload_n C 0 dX12_slips_0 rfl rfl ?_
  refine r_iload_n C 1 dX12_slips_1 rfl rfl ?_
  refine r_sipush C (v := nI 720) dX12_slips_2 (by decide) ?_
  refine r_callV C hgX (ci := 14) ml_X12_277 im_X12_takes se_X12_takes rfl rfl hm.k (c_X12_takes l hfl G M mb τ hm ht hw p 720 (by omega) (by omega)) rfl (Nat.le_of_ble_eq_true rfl) ⟨Nat.le_of_ble_eq_true rfl, Nat.le_of_ble_eq_true rfl⟩ ⟨Nat.le_of_ble_eq_true rfl, Nat.le_of_ble_eq_true rfl⟩ dX12_slips_5 rfl ?_
  rintro _ My1 ⟨rfl, hfo1, htk1, htl1, hlf1⟩
  have hm := hfo1.ok hm
  have ht := hfo1.te rfl ht
  obtain ⟨lt, hlt, hlp⟩ := sl_lt hnl hlb htk1 htl1
  have hmS := hm
  have htS := ht
  have hfoT := hfo1
  refine r_lconst C (v := lN 0) dX12_slips_8 (by decide) ?_
  refine r_lstore_n C (lo' := [(2, .long (lN 0)), (0, .ref mb), (1, .int (nI p))]) dX12_slips_9 rfl (by decide) rfl ?_
  refine r_iconst C (v := nI 0) dX12_slips_10 (by decide) ?_
  refine r_istore C (lo' := [(4, .int (nI 0)), (2, .long (lN 0)), (0, .ref mb), (1, .int (nI p))]) dX12_slips_11 (by decide) rfl ?_
  have lp13 : ∀ (k13 : Nat) (M1 : Mem) (m : Nat) (hmd : m ≤ 24) (hfo : fOut [28, 29, 55, 56, 57, 58, 59, 60, 61, 62, 63, 64, 65, 66] mb My1 M1) (hbk : ∀ k, k < m → BKm τ p M1 mb k), 25 - m < k13 → V pp l ee ({ frames := 5, cells := 0, slots := 0, locals := 134 } : Room) ss mm ar bw mt cd G (MQ bw (Ke G (fun v M' => v = none ∧ fOut [16, 21, 28, 29, 55, 56, 57, 58, 59, 60, 61, 62, 63, 64, 65, 66] mb M M' ∧ (∀ k, k < 24 → BKm τ p M' mb k) ∧ LTB M' mb)) ar ss 0 0 (gA G)) 11 M1 0 0 13 [(0, .ref mb), (1, .int (nI p)), (2, .long (owL τ p m)), (4, .int (nI m))] [] := by
    intro k13
    induction k13 with
    | zero => intro M1 m hmd hfo hbk hz13; exact absurd hz13 (Nat.not_lt_zero _)
    | succ k13 ih13 =>
      intro M1 m hmd hfo hbk hz13
      have hm := hfo.ok hmS
      have ht := hfo.te rfl htS
      have hlt1 : ∀ k, k < un τ 17 17 → mI M1 (ma mb 16) k = nI (lt k) ∧ lt k ≤ 1 := fun k hk => by rw [hfo.i 16 rfl]; exact hlt k (by omega)
      refine r_iload C 3 dX12_slips_13 rfl ?_
      refine r_bipush C (v := nI 24) dX12_slips_15 (by decide) ?_
      refine r_icmp_geN C (t := 342) (by omega) (by omega) dX12_slips_17 (by decide) (fun c17 => ?_) (fun c17 => ?_)
      · skip
        have em : m = 24 := by omega
        subst em
        exact r_vret C hr (⟨rfl, (hfoT.mono rfl).tr (hfo.mono rfl), hbk, ⟨lt, fun k hk => by rw [hfo.i 16 rfl]; exact hlt k hk⟩⟩) (by first | exact Nat.zero_le _ | decide) (by first | exact Nat.zero_le _ | decide) dX12_slips_342
      · skip
        have hmn : m < 24 := by omega
        refine r_aload_n C 0 dX12_slips_20 rfl rfl ?_
        refine r_iload_n C 1 dX12_slips_21 rfl rfl ?_
        refine r_iload C 3 dX12_slips_22 rfl ?_
        refine r_callV C hgX (ci := 14) ml_X12_374 im_X12_grossOf se_X12_grossOf rfl rfl hm.k (c_X12_grossOf l hfl G M1 mb τ hm ht hw p m (by omega) (by omega) (lt) (hlt1) (hlp)) rfl (Nat.le_of_ble_eq_true rfl) ⟨Nat.le_of_ble_eq_true rfl, Nat.le_of_ble_eq_true rfl⟩ ⟨Nat.le_of_ble_eq_true rfl, Nat.le_of_ble_eq_true rfl⟩ dX12_slips_24 rfl ?_
        rintro _ My2 ⟨rfl, hfo2, hgr2, hgf2, hel2, hef2⟩
        have hm := hfo2.ok hm
        have ht := hfo2.te rfl ht
        have hfo := hfo.tr (hfo2.mono (L' := [28, 29, 55, 56, 57, 58, 59, 60, 61, 62, 63, 64, 65, 66]) rfl)
        have hbk : ∀ k, k < m → BKm τ p My2 mb k := fun k hk => (hbk k hk).mo (mOnly.mk hfo2 (fun f h1 h2 hc i hi => by
          have hc2 : f = 28 ∨ f = 29 ∨ f = 55 ∨ f = 65 := by simpa using hc
          rcases hc2 with rfl | rfl | rfl | rfl
          · omega
          · omega
          · have hi2 : i / 3 ≠ m := hi
            exact hgf2 i (by omega)
          · exact hef2 i hi)) (by omega) (by omega)
        have hgr := hgr2
        have hel := hel2
        refine r_aload_n C 0 dX12_slips_27 rfl rfl ?_
        refine r_iconst C (v := nI 2) dX12_slips_28 (by decide) ?_
        refine r_bipush C (v := nI 24) dX12_slips_29 (by decide) ?_
        refine r_iload_n C 1 dX12_slips_31 rfl rfl ?_
        refine r_imulN C dX12_slips_32 ?_
        refine r_iload C 3 dX12_slips_33 rfl ?_
        refine r_callV C hgX (ci := 14) ml_X12_351 im_X12_lastOf se_X12_lastOf rfl rfl hm.k (c_X12_lastOf l hfl G My2 mb τ hm ht hw 2 (24 * p) m (by omega) (by omega) (by rw [if_neg (by decide)]; omega)) rfl (Nat.le_of_ble_eq_true rfl) ⟨Nat.le_of_ble_eq_true rfl, Nat.le_of_ble_eq_true rfl⟩ ⟨Nat.le_of_ble_eq_true rfl, Nat.le_of_ble_eq_true rfl⟩ dX12_slips_35 rfl ?_
        rintro _ _ ⟨rfl, rfl⟩
        refine V.eSt (st' := [.int (oI (lastO τ 2 (24 * p) m))]) rfl ?_
        refine r_istore C (lo' := [(5, .int (oI (lastO τ 2 (24 * p) m))), (0, .ref mb), (1, .int (nI p)), (2, .long (owL τ p m)), (4, .int (nI m))]) dX12_slips_38 (by decide) rfl ?_
        have jn61 : V pp l ee ({ frames := 5, cells := 0, slots := 0, locals := 134 } : Room) ss mm ar bw mt cd G (MQ bw (Ke G (fun v M' => v = none ∧ fOut [16, 21, 28, 29, 55, 56, 57, 58, 59, 60, 61, 62, 63, 64, 65, 66] mb M M' ∧ (∀ k, k < 24 → BKm τ p M' mb k) ∧ LTB M' mb)) ar ss 0 0 (gA G)) 11 My2 0 0 61 [(5, .int (oI (lastO τ 2 (24 * p) m))), (0, .ref mb), (1, .int (nI p)), (2, .long (owL τ p m)), (4, .int (nI m))] [.int (nI (ptN τ p m))] := by
          skip
          have hpt := ptN_le (m := m) hw hp hmn
          refine r_istore C (lo' := [(6, .int (nI (ptN τ p m))), (5, .int (oI (lastO τ 2 (24 * p) m))), (0, .ref mb), (1, .int (nI p)), (2, .long (owL τ p m)), (4, .int (nI m))]) dX12_slips_61 (by decide) rfl ?_
          refine r_aload_n C 2 dX12_slips_63 rfl rfl ?_
          refine r_getR C (b := (ma mb 55)) fl_X12_143 rfl hm.k (hm.r 55 rfl) dX12_slips_64 ?_
          refine r_iconst C (v := nI 3) dX12_slips_67 (by decide) ?_
          refine r_iload C 5 dX12_slips_68 rfl ?_
          refine r_imulN C dX12_slips_70 ?_
          refine r_laloadN C (hm.i 55 21 rfl) (hm.n 55 72 rfl) (by omega) (by omega) dX12_slips_71 ?_
          refine V.el (y := grL τ p m 0) (hgr 0 (by omega)) ?_
          refine r_aload_n C 2 dX12_slips_72 rfl rfl ?_
          refine r_getR C (b := (ma mb 55)) fl_X12_143 rfl hm.k (hm.r 55 rfl) dX12_slips_73 ?_
          refine r_iconst C (v := nI 3) dX12_slips_76 (by decide) ?_
          refine r_iload C 5 dX12_slips_77 rfl ?_
          refine r_imulN C dX12_slips_79 ?_
          refine r_iconst C (v := nI 1) dX12_slips_80 (by decide) ?_
          refine r_iaddN C dX12_slips_81 ?_
          refine r_laloadN C (hm.i 55 21 rfl) (hm.n 55 72 rfl) (by omega) (by omega) dX12_slips_82 ?_
          refine V.el (y := grL τ p m 1) (hgr 1 (by omega)) ?_
          refine r_ladd C dX12_slips_83 ?_
          refine r_aload_n C 2 dX12_slips_84 rfl rfl ?_
          refine r_getR C (b := (ma mb 55)) fl_X12_143 rfl hm.k (hm.r 55 rfl) dX12_slips_85 ?_
          refine r_iconst C (v := nI 3) dX12_slips_88 (by decide) ?_
          refine r_iload C 5 dX12_slips_89 rfl ?_
          refine r_imulN C dX12_slips_91 ?_
          refine r_iconst C (v := nI 2) dX12_slips_92 (by decide) ?_
          refine r_iaddN C dX12_slips_93 ?_
          refine r_laloadN C (hm.i 55 21 rfl) (hm.n 55 72 rfl) (by omega) (by omega) dX12_slips_94 ?_
          refine V.el (y := grL τ p m 2) (hgr 2 (by omega)) ?_
          refine r_ladd C dX12_slips_95 ?_
          refine V.el (y := allL τ p m) rfl ?_
          refine r_lstore C (lo' := [(7, .long (allL τ p m)), (6, .int (nI (ptN τ p m))), (5, .int (oI (lastO τ 2 (24 * p) m))), (0, .ref mb), (1, .int (nI p)), (2, .long (owL τ p m)), (4, .int (nI m))]) dX12_slips_96 (by decide) rfl ?_
          refine r_aload_n C 3 dX12_slips_98 rfl rfl ?_
          refine r_getR C (b := (ma mb 60)) fl_X12_158 rfl hm.k (hm.r 60 rfl) dX12_slips_99 ?_
          refine r_iload C 6 dX12_slips_102 rfl ?_
          have jn128 : V pp l ee ({ frames := 5, cells := 0, slots := 0, locals := 134 } : Room) ss mm ar bw mt cd G (MQ bw (Ke G (fun v M' => v = none ∧ fOut [16, 21, 28, 29, 55, 56, 57, 58, 59, 60, 61, 62, 63, 64, 65, 66] mb M M' ∧ (∀ k, k < 24 → BKm τ p M' mb k) ∧ LTB M' mb)) ar ss 0 0 (gA G)) 11 My2 0 0 128 [(7, .long (allL τ p m)), (6, .int (nI (ptN τ p m))), (5, .int (oI (lastO τ 2 (24 * p) m))), (0, .ref mb), (1, .int (nI p)), (2, .long (owL τ p m)), (4, .int (nI m))] [.long (pnL τ p m), .int (nI m), .ref (ma mb 60)] := by
            skip
            refine r_lastoreN C (hm.i 60 21 rfl) (hm.n 60 24 rfl) (by omega) (by omega) dX12_slips_128 ?_
            refine r_aload_n C 3 dX12_slips_129 rfl rfl ?_
            refine r_getR C (b := (ma mb 61)) fl_X12_161 rfl hm.k (hm.r 61 rfl) dX12_slips_130 ?_
            refine r_iload C 6 dX12_slips_133 rfl ?_
            have jn171 : V pp l ee ({ frames := 5, cells := 0, slots := 0, locals := 134 } : Room) ss mm ar bw mt cd G (MQ bw (Ke G (fun v M' => v = none ∧ fOut [16, 21, 28, 29, 55, 56, 57, 58, 59, 60, 61, 62, 63, 64, 65, 66] mb M M' ∧ (∀ k, k < 24 → BKm τ p M' mb k) ∧ LTB M' mb)) ar ss 0 0 (gA G)) 11 (wL My2 (ma mb 60) m (pnL τ p m)) 0 0 171 [(7, .long (allL τ p m)), (6, .int (nI (ptN τ p m))), (5, .int (oI (lastO τ 2 (24 * p) m))), (0, .ref mb), (1, .int (nI p)), (2, .long (owL τ p m)), (4, .int (nI m))] [.long (mtL τ p m), .int (nI m), .ref (ma mb 61)] := by
              skip
              refine r_lastoreN C (hm.i 61 21 rfl) (hm.n 61 24 rfl) (by omega) (by omega) dX12_slips_171 ?_
              refine r_aload_n C 3 dX12_slips_172 rfl rfl ?_
              refine r_getR C (b := (ma mb 62)) fl_X12_164 rfl hm.k (hm.r 62 rfl) dX12_slips_173 ?_
              refine r_iload C 6 dX12_slips_176 rfl ?_
              refine r_lload C 0 dX12_slips_178 rfl ?_
              refine r_aload_n C 3 dX12_slips_180 rfl rfl ?_
              refine r_getR C (b := (ma mb 60)) fl_X12_158 rfl hm.k (hm.r 60 rfl) dX12_slips_181 ?_
              refine r_iload C 6 dX12_slips_184 rfl ?_
              refine r_laloadN C (hm.i 60 21 rfl) (hm.n 60 24 rfl) (by omega) (by omega) dX12_slips_186 ?_
              refine V.el (y := pnL τ p m) ((ne_f rfl).trans eq_f) ?_
              refine r_lsub C dX12_slips_187 ?_
              refine r_lastoreN C (hm.i 62 21 rfl) (hm.n 62 24 rfl) (by omega) (by omega) dX12_slips_188 ?_
              obtain ⟨hbk, hmf⟩ := sl_start hmn hbk hgr hel
              have hfo : fOut [28, 29, 55, 56, 57, 58, 59, 60, 61, 62, 63, 64, 65, 66] mb My1 (wL (wL (wL My2 (ma mb 60) m (pnL τ p m)) (ma mb 61) m (mtL τ p m)) (ma mb 62) m ((allL τ p m) - (pnL τ p m))) := ((hfo.setL 60 _ _ rfl).setL 61 _ _ rfl).setL 62 _ _ rfl
              refine r_iconst C (v := nI 0) dX12_slips_189 (by decide) ?_
              refine r_istore C (lo' := [(9, .int (nI 0)), (7, .long (allL τ p m)), (6, .int (nI (ptN τ p m))), (5, .int (oI (lastO τ 2 (24 * p) m))), (0, .ref mb), (1, .int (nI p)), (2, .long (owL τ p m)), (4, .int (nI m))]) dX12_slips_190 (by decide) rfl ?_
              have lp192 : ∀ (k192 : Nat) (M2 : Mem) (q : Nat) (hq3 : q ≤ 3) (hfo2 : fOut [28, 29, 55, 56, 57, 58, 59, 60, 61, 62, 63, 64, 65, 66] mb My1 M2) (hbk : ∀ k, k < m → BKm τ p M2 mb k) (hmf : MF τ p M2 mb m q (ntK τ p m q)), 4 - q < k192 → V pp l ee ({ frames := 5, cells := 0, slots := 0, locals := 134 } : Room) ss mm ar bw mt cd G (MQ bw (Ke G (fun v M' => v = none ∧ fOut [16, 21, 28, 29, 55, 56, 57, 58, 59, 60, 61, 62, 63, 64, 65, 66] mb M M' ∧ (∀ k, k < 24 → BKm τ p M' mb k) ∧ LTB M' mb)) ar ss 0 0 (gA G)) 11 M2 0 0 192 [(0, .ref mb), (1, .int (nI p)), (2, .long (owL τ p m)), (4, .int (nI m)), (9, .int (nI q))] [] := by
                intro k192
                induction k192 with
                | zero => intro M2 q hq3 hfo2 hbk hmf hz192; exact absurd hz192 (Nat.not_lt_zero _)
                | succ k192 ih192 =>
                  intro M2 q hq3 hfo2 hbk hmf hz192
                  have hm := hfo2.ok hmS
                  have ht := hfo2.te rfl htS
                  refine r_iload C 4 dX12_slips_192 rfl ?_
                  refine r_iconst C (v := nI 3) dX12_slips_194 (by decide) ?_
                  refine r_icmp_geN C (t := 256) (by omega) (by omega) dX12_slips_195 (by decide) (fun c195 => ?_) (fun c195 => ?_)
                  · skip
                    have eq3 : q = 3 := by omega
                    subst eq3
                    refine r_aload_n C 0 dX12_slips_256 rfl rfl ?_
                    refine r_iload_n C 1 dX12_slips_257 rfl rfl ?_
                    refine r_iload C 3 dX12_slips_258 rfl ?_
                    refine r_callV C hgX (ci := 14) ml_X12_384 im_X12_garnished se_X12_garnished rfl rfl hm.k (c_X12_garnished l hfl G M2 mb τ hm ht hw p m (by omega) (by omega)) rfl (Nat.le_of_ble_eq_true rfl) ⟨Nat.le_of_ble_eq_true rfl, Nat.le_of_ble_eq_true rfl⟩ ⟨Nat.le_of_ble_eq_true rfl, Nat.le_of_ble_eq_true rfl⟩ dX12_slips_260 rfl ?_
                    rintro _ My4 ⟨rfl, hfo4, htk4, hpy4, hgn4, hf634, hf644, hf664⟩
                    have hm := hfo4.ok hm
                    have ht := hfo4.te rfl ht
                    obtain ⟨hbk, hpy64, hbm⟩ := sl_garn hmn hbk (show MF τ p M2 mb m 3 (ntL τ p m) from hmf) hfo4 htk4 hpy4 hgn4 hf634 hf644 hf664
                    have hfo := hfo2.tr (hfo4.mono (L' := [28, 29, 55, 56, 57, 58, 59, 60, 61, 62, 63, 64, 65, 66]) rfl)
                    refine r_lload_n C 2 dX12_slips_263 rfl rfl ?_
                    refine r_aload_n C 0 dX12_slips_264 rfl rfl ?_
                    refine r_getR C (b := (ma mb 45)) fl_X12_119 rfl hm.k (hm.r 45 rfl) dX12_slips_265 ?_
                    refine r_bipush C (v := nI 24) dX12_slips_268 (by decide) ?_
                    refine r_iload_n C 1 dX12_slips_270 rfl rfl ?_
                    refine r_imulN C dX12_slips_271 ?_
                    refine r_iload C 3 dX12_slips_272 rfl ?_
                    refine r_iaddN C dX12_slips_274 ?_
                    refine r_laloadN C (hm.i 45 21 rfl) (hm.n 45 144 rfl) (by omega) (by omega) dX12_slips_275 ?_
                    refine V.el (y := τ.2 45 (24 * p + m)) (ht.l 45 rfl _) ?_
                    refine r_ladd C dX12_slips_276 ?_
                    refine r_lstore_n C (lo' := [(2, .long ((owL τ p m) + (τ.2 45 (24 * p + m)))), (0, .ref mb), (1, .int (nI p)), (4, .int (nI m)), (9, .int (nI 3))]) dX12_slips_277 rfl (by decide) rfl ?_
                    have jn317 : V pp l ee ({ frames := 5, cells := 0, slots := 0, locals := 134 } : Room) ss mm ar bw mt cd G (MQ bw (Ke G (fun v M' => v = none ∧ fOut [16, 21, 28, 29, 55, 56, 57, 58, 59, 60, 61, 62, 63, 64, 65, 66] mb M M' ∧ (∀ k, k < 24 → BKm τ p M' mb k) ∧ LTB M' mb)) ar ss 0 0 (gA G)) 11 My4 0 0 317 [(2, .long ((owL τ p m) + (τ.2 45 (24 * p + m)))), (0, .ref mb), (1, .int (nI p)), (4, .int (nI m)), (9, .int (nI 3))] [.long (bkL τ p m)] := by
                      skip
                      refine r_lstore C (lo' := [(9, .long (bkL τ p m)), (2, .long ((owL τ p m) + (τ.2 45 (24 * p + m)))), (0, .ref mb), (1, .int (nI p)), (4, .int (nI m))]) dX12_slips_317 (by decide) rfl ?_
                      refine r_aload_n C 2 dX12_slips_319 rfl rfl ?_
                      refine r_getR C (b := (ma mb 64)) fl_X12_170 rfl hm.k (hm.r 64 rfl) dX12_slips_320 ?_
                      refine r_iload C 4 dX12_slips_323 rfl ?_
                      refine r_dup2 C dX12_slips_325 rfl rfl ?_
                      refine r_laloadN C (hm.i 64 21 rfl) (hm.n 64 24 rfl) (by omega) (by omega) dX12_slips_326 ?_
                      refine V.el (y := lvL τ p m) (hpy64) ?_
                      refine r_lload C 0 dX12_slips_327 rfl ?_
                      refine r_lsub C dX12_slips_329 ?_
                      refine r_lastoreN C (hm.i 64 21 rfl) (hm.n 64 24 rfl) (by omega) (by omega) dX12_slips_330 ?_
                      refine r_lload_n C 1 dX12_slips_331 rfl rfl ?_
                      refine r_lload C 0 dX12_slips_332 rfl ?_
                      refine r_lsub C dX12_slips_334 ?_
                      refine r_lstore_n C (lo' := [(2, .long (((owL τ p m) + (τ.2 45 (24 * p + m))) - (bkL τ p m))), (9, .long (bkL τ p m)), (0, .ref mb), (1, .int (nI p)), (4, .int (nI m))]) dX12_slips_335 rfl (by decide) rfl ?_
                      refine r_iinc C (v := nI (m + 1)) (lo' := [(4, .int (nI (m + 1))), (2, .long (((owL τ p m) + (τ.2 45 (24 * p + m))) - (bkL τ p m))), (9, .long (bkL τ p m)), (0, .ref mb), (1, .int (nI p))]) 4 dX12_slips_336 rfl (nI_addI m 1) (by decide) rfl ?_
                      refine r_goto C (t := 13) dX12_slips_339 (by decide) ?_
                      have jb2 : (((owL τ p m) + (τ.2 45 (24 * p + m))) - (bkL τ p m)) = (owL τ p (m + 1)) := by rfl
                      refine V.eLo (lo' := [(4, .int (nI (m + 1))), (2, .long (owL τ p (m + 1))), (9, .long (bkL τ p m)), (0, .ref mb), (1, .int (nI p))]) (congrArg (fun z_ => ([(4, .int (nI (m + 1))), (2, .long z_), (9, .long (bkL τ p m)), (0, .ref mb), (1, .int (nI p))] : List (Nat × Value))) jb2) ?_
                      refine V.sub [3, 4, 1, 0] (lo' := [(0, .ref mb), (1, .int (nI p)), (2, .long (owL τ p (m + 1))), (4, .int (nI (m + 1)))]) rfl ?_
                      exact ih13 (wL My4 (ma mb 64) m ((lvL τ p m) - (bkL τ p m))) (m + 1) (by omega) (hfo.setL 64 _ _ rfl) (fun k hk => by by_cases z : k = m; (subst z; exact (hbm 0).1); exact (hbm k).2 (by omega)) (by omega)
                    refine r_aload_n C 1 dX12_slips_278 rfl rfl ?_
                    refine r_getR C (b := (ma mb 64)) fl_X12_170 rfl hm.k (hm.r 64 rfl) dX12_slips_279 ?_
                    refine r_iload C 3 dX12_slips_282 rfl ?_
                    refine r_laloadN C (hm.i 64 21 rfl) (hm.n 64 24 rfl) (by omega) (by omega) dX12_slips_284 ?_
                    refine V.el (y := lvL τ p m) (hpy64) ?_
                    refine r_lconst C (v := lN 0) dX12_slips_285 (by decide) ?_
                    refine r_lcmp_gt C (t := 294) dX12_slips_286 dX12_slips_287 (by decide) (fun c287 => ?_) (fun c287 => ?_)
                    · skip
                      refine r_aload_n C 1 dX12_slips_294 rfl rfl ?_
                      refine r_getR C (b := (ma mb 64)) fl_X12_170 rfl hm.k (hm.r 64 rfl) dX12_slips_295 ?_
                      refine r_iload C 3 dX12_slips_298 rfl ?_
                      refine r_laloadN C (hm.i 64 21 rfl) (hm.n 64 24 rfl) (by omega) (by omega) dX12_slips_300 ?_
                      refine V.el (y := lvL τ p m) (hpy64) ?_
                      refine r_lload_n C 0 dX12_slips_301 rfl rfl ?_
                      refine r_lcmp_ge C (t := 316) dX12_slips_302 dX12_slips_303 (by decide) (fun c303 => ?_) (fun c303 => ?_)
                      · skip
                        refine r_lload_n C 0 dX12_slips_316 rfl rfl ?_
                        refine V.el (y := bkL τ p m) (by unfold bkL bkV; rw [if_neg (Int64.not_le.mpr c287), if_neg (Int64.not_lt.mpr c303)]) ?_
                        exact jn317
                      · skip
                        refine r_aload_n C 1 dX12_slips_306 rfl rfl ?_
                        refine r_getR C (b := (ma mb 64)) fl_X12_170 rfl hm.k (hm.r 64 rfl) dX12_slips_307 ?_
                        refine r_iload C 3 dX12_slips_310 rfl ?_
                        refine r_laloadN C (hm.i 64 21 rfl) (hm.n 64 24 rfl) (by omega) (by omega) dX12_slips_312 ?_
                        refine V.el (y := lvL τ p m) (hpy64) ?_
                        refine r_goto C (t := 317) dX12_slips_313 (by decide) ?_
                        refine V.el (y := bkL τ p m) (by unfold bkL bkV; rw [if_neg (Int64.not_le.mpr c287), if_pos (Int64.not_le.mp c303)]) ?_
                        exact jn317
                    · skip
                      refine r_lconst C (v := lN 0) dX12_slips_290 (by decide) ?_
                      refine r_goto C (t := 317) dX12_slips_291 (by decide) ?_
                      refine V.el (y := bkL τ p m) (by unfold bkL bkV; rw [if_pos (Int64.not_lt.mp c287)]) ?_
                      exact jn317
                  · skip
                    have hq : q < 3 := by omega
                    refine r_aload_n C 0 dX12_slips_198 rfl rfl ?_
                    refine r_iload C 3 dX12_slips_199 rfl ?_
                    refine r_iload C 4 dX12_slips_201 rfl ?_
                    refine r_callV C hgX (ci := 14) ml_X12_377 im_X12_contribute se_X12_contribute rfl rfl hm.k (c_X12_contribute l hfl G M2 mb τ hm ht hw m q (by omega) (by omega)) rfl (Nat.le_of_ble_eq_true rfl) ⟨Nat.le_of_ble_eq_true rfl, Nat.le_of_ble_eq_true rfl⟩ ⟨Nat.le_of_ble_eq_true rfl, Nat.le_of_ble_eq_true rfl⟩ dX12_slips_203 rfl ?_
                    rintro _ My5 ⟨rfl, hfo5, hct5, hco5, hf565, hf575⟩
                    have hm := hfo5.ok hm
                    have ht := hfo5.te rfl ht
                    obtain ⟨hbk, hmf, hc56, hc57⟩ := sl_contr hmn hq hbk hmf hfo5 hct5 hco5 hf565 hf575
                    have hfo2 := hfo2.tr (hfo5.mono (L' := [28, 29, 55, 56, 57, 58, 59, 60, 61, 62, 63, 64, 65, 66]) rfl)
                    refine r_aload_n C 0 dX12_slips_206 rfl rfl ?_
                    refine r_iload_n C 1 dX12_slips_207 rfl rfl ?_
                    refine r_iload C 3 dX12_slips_208 rfl ?_
                    refine r_iload C 4 dX12_slips_210 rfl ?_
                    refine r_callV C hgX (ci := 14) ml_X12_380 im_X12_taxes se_X12_taxes rfl rfl hm.k (c_X12_taxes l hfl G My5 mb τ hm ht hw p m q (by omega) (by omega) (by omega)) rfl (Nat.le_of_ble_eq_true rfl) ⟨Nat.le_of_ble_eq_true rfl, Nat.le_of_ble_eq_true rfl⟩ ⟨Nat.le_of_ble_eq_true rfl, Nat.le_of_ble_eq_true rfl⟩ dX12_slips_212 rfl ?_
                    rintro _ My6 ⟨rfl, hfo6, htx6, hta6, hf586, hf596⟩
                    have hm := hfo6.ok hm
                    have ht := hfo6.te rfl ht
                    obtain ⟨hbk, hmf⟩ := sl_tax hmn hq hbk hmf hc56 hc57 hfo6 htx6 hta6 hf586 hf596
                    have hfo2 := hfo2.tr (hfo6.mono (L' := [28, 29, 55, 56, 57, 58, 59, 60, 61, 62, 63, 64, 65, 66]) rfl)
                    obtain ⟨a56, a57, a58, a59⟩ := hmf.2.1 q (Nat.lt_succ_self q)
                    refine r_aload_n C 0 dX12_slips_215 rfl rfl ?_
                    refine r_getR C (b := (ma mb 62)) fl_X12_164 rfl hm.k (hm.r 62 rfl) dX12_slips_216 ?_
                    refine r_iload C 3 dX12_slips_219 rfl ?_
                    refine r_dup2 C dX12_slips_221 rfl rfl ?_
                    refine r_laloadN C (hm.i 62 21 rfl) (hm.n 62 24 rfl) (by omega) (by omega) dX12_slips_222 ?_
                    refine V.el (y := ntK τ p m q) (hmf.2.2.2.2.1) ?_
                    refine r_aload_n C 0 dX12_slips_223 rfl rfl ?_
                    refine r_getR C (b := (ma mb 57)) fl_X12_149 rfl hm.k (hm.r 57 rfl) dX12_slips_224 ?_
                    refine r_iconst C (v := nI 3) dX12_slips_227 (by decide) ?_
                    refine r_iload C 3 dX12_slips_228 rfl ?_
                    refine r_imulN C dX12_slips_230 ?_
                    refine r_iload C 4 dX12_slips_231 rfl ?_
                    refine r_iaddN C dX12_slips_233 ?_
                    refine r_laloadN C (hm.i 57 21 rfl) (hm.n 57 72 rfl) (by omega) (by omega) dX12_slips_234 ?_
                    refine V.el (y := coL τ p m q) (a57) ?_
                    refine r_aload_n C 0 dX12_slips_235 rfl rfl ?_
                    refine r_getR C (b := (ma mb 59)) fl_X12_155 rfl hm.k (hm.r 59 rfl) dX12_slips_236 ?_
                    refine r_iconst C (v := nI 3) dX12_slips_239 (by decide) ?_
                    refine r_iload C 3 dX12_slips_240 rfl ?_
                    refine r_imulN C dX12_slips_242 ?_
                    refine r_iload C 4 dX12_slips_243 rfl ?_
                    refine r_iaddN C dX12_slips_245 ?_
                    refine r_laloadN C (hm.i 59 21 rfl) (hm.n 59 72 rfl) (by omega) (by omega) dX12_slips_246 ?_
                    refine V.el (y := taL τ p m q) (a59) ?_
                    refine r_ladd C dX12_slips_247 ?_
                    refine r_lsub C dX12_slips_248 ?_
                    refine r_lastoreN C (hm.i 62 21 rfl) (hm.n 62 24 rfl) (by omega) (by omega) dX12_slips_249 ?_
                    refine r_iinc C (v := nI (q + 1)) (lo' := [(9, .int (nI (q + 1))), (0, .ref mb), (1, .int (nI p)), (2, .long (owL τ p m)), (4, .int (nI m))]) 4 dX12_slips_250 rfl (nI_addI q 1) (by decide) rfl ?_
                    refine r_goto C (t := 192) dX12_slips_253 (by decide) ?_
                    refine V.sub [1, 2, 3, 4, 0] (lo' := [(0, .ref mb), (1, .int (nI p)), (2, .long (owL τ p m)), (4, .int (nI m)), (9, .int (nI (q + 1)))]) rfl ?_
                    exact ih192 (wL My6 (ma mb 62) m ((ntK τ p m q) - ((coL τ p m q) + (taL τ p m q)))) (q + 1) (by omega) (hfo2.setL 62 _ _ rfl) ((sl_net hmn hbk hmf _).1) ((sl_net hmn hbk hmf _).2) (by omega)
              refine V.sub [4, 5, 6, 7, 0] (lo' := [(0, .ref mb), (1, .int (nI p)), (2, .long (owL τ p m)), (4, .int (nI m)), (9, .int (nI 0))]) rfl ?_
              exact lp192 _ (wL (wL (wL My2 (ma mb 60) m (pnL τ p m)) (ma mb 61) m (mtL τ p m)) (ma mb 62) m ((allL τ p m) - (pnL τ p m))) 0 (Nat.zero_le _) hfo hbk hmf (Nat.lt_succ_self _)
            refine r_lload C 0 dX12_slips_135 rfl ?_
            refine r_lconst C (v := lN 0) dX12_slips_137 (by decide) ?_
            refine r_lcmp_ge C (t := 146) dX12_slips_138 dX12_slips_139 (by decide) (fun c139 => ?_) (fun c139 => ?_)
            · skip
              refine r_aload_n C 3 dX12_slips_146 rfl rfl ?_
              refine r_lload C 0 dX12_slips_147 rfl ?_
              have jn163 : V pp l ee ({ frames := 5, cells := 0, slots := 0, locals := 134 } : Room) ss mm ar bw mt cd G (MQ bw (Ke G (fun v M' => v = none ∧ fOut [16, 21, 28, 29, 55, 56, 57, 58, 59, 60, 61, 62, 63, 64, 65, 66] mb M M' ∧ (∀ k, k < 24 → BKm τ p M' mb k) ∧ LTB M' mb)) ar ss 0 0 (gA G)) 11 (wL My2 (ma mb 60) m (pnL τ p m)) 0 0 163 [(7, .long (allL τ p m)), (6, .int (nI (ptN τ p m))), (5, .int (oI (lastO τ 2 (24 * p) m))), (0, .ref mb), (1, .int (nI p)), (2, .long (owL τ p m)), (4, .int (nI m))] [.int (nI (if ptN τ p m < 50 then ptN τ p m else 50)), .long (allL τ p m), .ref mb, .int (nI m), .ref (ma mb 61)] := by
                skip
                refine r_i2lN C (by split <;> omega) dX12_slips_163 ?_
                refine r_lmul C dX12_slips_164 ?_
                refine r_ldc2 C (v := 1000) kl_X12_331 dX12_slips_165 ?_
                refine V.el (y := lN 1000) (by decide) ?_
                refine r_callV C hgX (ci := 14) ml_X12_261 im_X12_round se_X12_round rfl rfl (show mK (wL My2 (ma mb 60) m (pnL τ p m)) mb = 14 + 1 from hm.k) (c_X12_round l hfl G (wL My2 (ma mb 60) m (pnL τ p m)) mb hm ((allL τ p m) * (lN (if ptN τ p m < 50 then ptN τ p m else 50))) (lN 1000) (by decide)) rfl (Nat.le_of_ble_eq_true rfl) ⟨Nat.le_of_ble_eq_true rfl, Nat.le_of_ble_eq_true rfl⟩ ⟨Nat.le_of_ble_eq_true rfl, Nat.le_of_ble_eq_true rfl⟩ dX12_slips_168 rfl ?_
                rintro _ _ ⟨rfl, rfl⟩
                refine V.eSt (st' := [.long (rndL ((allL τ p m) * (lN (if ptN τ p m < 50 then ptN τ p m else 50))) (lN 1000)), .int (nI m), .ref (ma mb 61)]) rfl ?_
                refine V.el (y := mtL τ p m) (by rw [mtL, if_neg (Int64.not_lt.mpr c139)]) ?_
                exact jn171
              refine r_iload C 1 dX12_slips_149 rfl ?_
              refine r_bipush C (v := nI 50) dX12_slips_151 (by decide) ?_
              refine r_icmp_geN C (t := 161) (by omega) (by omega) dX12_slips_153 (by decide) (fun c153 => ?_) (fun c153 => ?_)
              · skip
                refine r_bipush C (v := nI 50) dX12_slips_161 (by decide) ?_
                refine V.ei (y := nI (if ptN τ p m < 50 then ptN τ p m else 50)) (congrArg nI (by rw [if_neg (by omega)])) ?_
                exact jn163
              · skip
                refine r_iload C 1 dX12_slips_156 rfl ?_
                refine r_goto C (t := 163) dX12_slips_158 (by decide) ?_
                refine V.ei (y := nI (if ptN τ p m < 50 then ptN τ p m else 50)) (congrArg nI (by rw [if_pos (by omega)])) ?_
                exact jn163
            · skip
              refine r_lconst C (v := lN 0) dX12_slips_142 (by decide) ?_
              refine r_goto C (t := 171) dX12_slips_143 (by decide) ?_
              refine V.el (y := mtL τ p m) (by rw [mtL, if_pos (Int64.not_le.mp c139)]) ?_
              exact jn171
          refine r_lload C 0 dX12_slips_104 rfl ?_
          refine r_lconst C (v := lN 0) dX12_slips_106 (by decide) ?_
          refine r_lcmp_ge C (t := 115) dX12_slips_107 dX12_slips_108 (by decide) (fun c108 => ?_) (fun c108 => ?_)
          · skip
            refine r_aload_n C 3 dX12_slips_115 rfl rfl ?_
            refine r_lload C 0 dX12_slips_116 rfl ?_
            refine r_iload C 1 dX12_slips_118 rfl ?_
            refine r_i2lN C (by omega) dX12_slips_120 ?_
            refine r_lmul C dX12_slips_121 ?_
            refine r_ldc2 C (v := 1000) kl_X12_331 dX12_slips_122 ?_
            refine V.el (y := lN 1000) (by decide) ?_
            refine r_callV C hgX (ci := 14) ml_X12_261 im_X12_round se_X12_round rfl rfl hm.k (c_X12_round l hfl G My2 mb hm ((allL τ p m) * (lN (ptN τ p m))) (lN 1000) (by decide)) rfl (Nat.le_of_ble_eq_true rfl) ⟨Nat.le_of_ble_eq_true rfl, Nat.le_of_ble_eq_true rfl⟩ ⟨Nat.le_of_ble_eq_true rfl, Nat.le_of_ble_eq_true rfl⟩ dX12_slips_125 rfl ?_
            rintro _ _ ⟨rfl, rfl⟩
            refine V.eSt (st' := [.long (rndL ((allL τ p m) * (lN (ptN τ p m))) (lN 1000)), .int (nI m), .ref (ma mb 60)]) rfl ?_
            refine V.el (y := pnL τ p m) (by rw [pnL, if_neg (Int64.not_lt.mpr c108)]) ?_
            exact jn128
          · skip
            refine r_lconst C (v := lN 0) dX12_slips_111 (by decide) ?_
            refine r_goto C (t := 128) dX12_slips_112 (by decide) ?_
            refine V.el (y := pnL τ p m) (by rw [pnL, if_pos (Int64.not_le.mp c108)]) ?_
            exact jn128
        refine r_iload C 0 dX12_slips_40 rfl ?_
        refine r_if_ge C (t := 49) dX12_slips_42 (by decide) (fun c42 => ?_) (fun c42 => ?_)
        · skip
          obtain ⟨k, hlo⟩ := oI_some c42
          have hk1 := (lastO_le hlo).1
          have hk2 := (lastO_le hlo).2
          refine r_aload_n C 1 dX12_slips_49 rfl rfl ?_
          refine r_getR C (b := (ma mb 37)) fl_X12_98 rfl hm.k (hm.r 37 rfl) dX12_slips_50 ?_
          refine r_bipush C (v := nI 24) dX12_slips_53 (by decide) ?_
          refine r_iload_n C 2 dX12_slips_55 rfl rfl ?_
          refine r_imulN C dX12_slips_56 ?_
          refine r_iload C 0 dX12_slips_57 rfl ?_
          refine V.ei (y := nI k) (by rw [hlo]; rfl) ?_
          refine r_iaddN C dX12_slips_59 ?_
          refine r_ialoadN C (hm.i 37 20 rfl) (hm.n 37 144 rfl) (by omega) (by omega) dX12_slips_60 ?_
          refine V.ei (y := nI (un τ 37 (24 * p + k))) ((ht.i 37 rfl _).trans (hasB2 hw (by omega) hk2).1) ?_
          have hb6 := (hasB2 hw (by omega) hk2).2
          refine V.ei (y := nI (ptN τ p m)) (congrArg nI (by unfold ptN; rw [hlo])) ?_
          exact jn61
        · skip
          refine r_iconst C (v := nI 0) dX12_slips_45 (by decide) ?_
          refine r_goto C (t := 61) dX12_slips_46 (by decide) ?_
          refine V.ei (y := nI (ptN τ p m)) (congrArg nI (by unfold ptN; rw [oI_none (lastO_b hmn) c42])) ?_
          exact jn61
  refine V.sub [2, 3, 1, 0] (lo' := [(0, .ref mb), (1, .int (nI p)), (2, .long (lN 0)), (4, .int (nI 0))]) rfl ?_
  exact lp13 _ My1 0 (Nat.zero_le _) (fOut.rf _ _ _) (fun k hk => absurd hk (Nat.not_lt_zero _)) (Nat.lt_succ_self _)
