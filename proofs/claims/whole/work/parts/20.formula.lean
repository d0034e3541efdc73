set_option maxHeartbeats 4000000 in
set_option maxRecDepth 100000 in
theorem c_X12_formula (l : Launch) (hfl : l.flags = flags0) (G : gW) (M : Mem) (mb : Nat) (τ : Mu) (hm : MOK (mK M) (mN M) (mR M) mb) (ht : TE (mI M) (mL M) mb τ) (hw : WF τ) (e : Nat) (he : e < un τ 26 26) (b h : Int64) : CT l yX12_formula cX12_formula 10 (some .long) 3 0 0 75 G M [.ref mb, .int (nI e), .long b, .long h] (fun v M' => v = some (.long (formL τ (mL M (ma mb 29)) b h e)) ∧ fOut [28] mb M M') := by
  refine CT.of hfl rfl (Nat.le_of_ble_eq_true rfl) ?_
  intro pp ee ss mm ar bw mt cd C hgX hr hini
  have hnc := hw.nc.2
  have hsh := hw.sh.2
  have hnl := hw.nl.2
  have hne := hw.ne.2
  have hng := hw.ng.2
  have hop := hw.op.2
  have hnp := hw.np.2
  have ht0 := ht
  have hm0 := hm
  refine V.eLo (lo' := [(0, .ref mb), (1, .int (nI e)), (2, .long b), (4, .long h)]) rfl ?_
  refine r_iconst C (v := nI 0) dX12_formula_0 (by decide) ?_
  refine r_istore C (lo' := [(6, .int (nI 0)), (0, .ref mb), (1, .int (nI e)), (2, .long b), (4, .long h)]) dX12_formula_1 (by decide) rfl ?_
  refine r_iconst C (v := nI 0) dX12_formula_3 (by decide) ?_
  refine r_istore C (lo' := [(7, .int (nI 0)), (6, .int (nI 0)), (0, .ref mb), (1, .int (nI e)), (2, .long b), (4, .long h)]) dX12_formula_4 (by decide) rfl ?_
  have lp6 : ∀ (k6 : Nat) (M1 : Mem) (k : Nat) (hk : k ≤ un τ 24 e) (hfo : fOut [28] mb M M1) (hpl : ∀ i, i < fmD τ e k → mL M1 (ma mb 28) i = fmP τ (mL M (ma mb 29)) b h e k i), un τ 24 e + 1 - k < k6 → V pp l ee ({ frames := 3, cells := 0, slots := 0, locals := 75 } : Room) ss mm ar bw mt cd G (MQ bw (Ke G (fun v M' => v = some (.long (formL τ (mL M (ma mb 29)) b h e)) ∧ fOut [28] mb M M')) ar ss 0 0 (gA G)) 10 M1 0 0 6 [(0, .ref mb), (1, .int (nI e)), (2, .long b), (4, .long h), (6, .int (nI (fmD τ e k))), (7, .int (nI k))] [] := by
    intro k6
    induction k6 with
    | zero => intro M1 k hk hfo hpl hz6; exact absurd hz6 (Nat.not_lt_zero _)
    | succ k6 ih6 =>
      intro M1 k hk hfo hpl hz6
      have ht := hfo.te rfl ht0
      have hm := hfo.ok hm0
      have hel := (hw.el e (by omega)).2
      have hfd := fmD_le τ e k
      refine r_iload C 5 dX12_formula_6 rfl ?_
      refine r_aload_n C 0 dX12_formula_8 rfl rfl ?_
      refine r_getR C (b := (ma mb 24)) fl_X12_61 rfl hm.k (hm.r 24 rfl) dX12_formula_9 ?_
      refine r_iload_n C 1 dX12_formula_12 rfl rfl ?_
      refine r_ialoadN C (hm.i 24 20 rfl) (hm.n 24 7 rfl) (by omega) (by omega) dX12_formula_13 ?_
      refine V.ei (y := nI (un τ 24 e)) ((ht.i 24 rfl _).trans (hw.el e (by omega)).1) ?_
      have hb0 := (hw.el e (by omega)).2
      refine r_icmp_geN C (t := 164) (by omega) (by omega) dX12_formula_14 (by decide) (fun c14 => ?_) (fun c14 => ?_)
      · skip
        have ek : k = un τ 24 e := by omega
        subst ek
        have hf1 := (hw.fm e he).2
        refine r_aload_n C 0 dX12_formula_164 rfl rfl ?_
        refine r_getR C (b := (ma mb 28)) fl_X12_70 rfl hm.k (hm.r 28 rfl) dX12_formula_165 ?_
        refine r_iconst C (v := nI 0) dX12_formula_168 (by decide) ?_
        refine r_laloadN C (hm.i 28 21 rfl) (hm.n 28 10 rfl) (by omega) (by omega) dX12_formula_169 ?_
        refine V.el (y := formL τ (mL M (ma mb 29)) b h e) (hpl 0 (by omega)) ?_
        exact r_lret C hr (⟨rfl, hfo⟩) (by first | exact Nat.zero_le _ | decide) (by first | exact Nat.zero_le _ | decide) dX12_formula_170
      · skip
        have hk1 : k < un τ 24 e := by omega
        refine r_aload_n C 0 dX12_formula_17 rfl rfl ?_
        refine r_getR C (b := (ma mb 22)) fl_X12_55 rfl hm.k (hm.r 22 rfl) dX12_formula_18 ?_
        refine r_bipush C (v := nI 10) dX12_formula_21 (by decide) ?_
        refine r_iload_n C 1 dX12_formula_23 rfl rfl ?_
        refine r_imulN C dX12_formula_24 ?_
        refine r_iload C 5 dX12_formula_25 rfl ?_
        refine r_iaddN C dX12_formula_27 ?_
        refine r_ialoadN C (hm.i 22 20 rfl) (hm.n 22 70 rfl) (by omega) (by omega) dX12_formula_28 ?_
        refine V.ei (y := nI (un τ 22 (10 * e + k))) ((ht.i 22 rfl _).trans (hw.ew e k (by omega) hk1).1) ?_
        have hb1 := (hw.ew e k (by omega) hk1).2
        refine r_istore C (lo' := [(8, .int (nI (un τ 22 (10 * e + k)))), (0, .ref mb), (1, .int (nI e)), (2, .long b), (4, .long h), (6, .int (nI (fmD τ e k))), (7, .int (nI k))]) dX12_formula_29 (by decide) rfl ?_
        refine r_aload_n C 1 dX12_formula_31 rfl rfl ?_
        refine r_getR C (b := (ma mb 23)) fl_X12_58 rfl hm.k (hm.r 23 rfl) dX12_formula_32 ?_
        refine r_bipush C (v := nI 10) dX12_formula_35 (by decide) ?_
        refine r_iload_n C 2 dX12_formula_37 rfl rfl ?_
        refine r_imulN C dX12_formula_38 ?_
        refine r_iload C 6 dX12_formula_39 rfl ?_
        refine r_iaddN C dX12_formula_41 ?_
        refine r_ialoadN C (hm.i 23 20 rfl) (hm.n 23 70 rfl) (by omega) (by omega) dX12_formula_42 ?_
        refine V.ei (y := τ.1 23 (10 * e + k)) (ht.i 23 rfl _) ?_
        refine r_istore C (lo' := [(9, .int (τ.1 23 (10 * e + k))), (8, .int (nI (un τ 22 (10 * e + k)))), (0, .ref mb), (1, .int (nI e)), (2, .long b), (4, .long h), (6, .int (nI (fmD τ e k))), (7, .int (nI k))]) dX12_formula_43 (by decide) rfl ?_
        refine r_iload C 1 dX12_formula_45 rfl ?_
        refine r_iconst C (v := nI 4) dX12_formula_47 (by decide) ?_
        refine r_icmp_geN C (t := 120) (by omega) (by omega) dX12_formula_48 (by decide) (fun c48 => ?_) (fun c48 => ?_)
        · skip
          have hf2 := (hw.fm e he).1 k hk1 (by omega)
          have hfd1 : fmD τ e (k + 1) = fmD τ e k - 1 := if_neg (by omega)
          have hfp1 : fmP τ (mL M (ma mb 29)) b h e (k + 1) = vp_updL (fmP τ (mL M (ma mb 29)) b h e k) (fmD τ e k - 2) (keptL (joinL (un τ 22 (10 * e + k)) (fmP τ (mL M (ma mb 29)) b h e k (fmD τ e k - 2)) (fmP τ (mL M (ma mb 29)) b h e k (fmD τ e k - 1)))) := if_neg (by omega)
          refine r_iinc C (v := nI (fmD τ e k - 1)) (lo' := [(6, .int (nI (fmD τ e k - 1))), (9, .int (τ.1 23 (10 * e + k))), (8, .int (nI (un τ 22 (10 * e + k)))), (0, .ref mb), (1, .int (nI e)), (2, .long b), (4, .long h), (7, .int (nI k))]) 6 dX12_formula_120 rfl (nI_m1 (by omega)) (by decide) rfl ?_
          refine r_aload_n C 3 dX12_formula_123 rfl rfl ?_
          refine r_getR C (b := (ma mb 28)) fl_X12_70 rfl hm.k (hm.r 28 rfl) dX12_formula_124 ?_
          refine r_iload C 0 dX12_formula_127 rfl ?_
          refine r_iconst C (v := nI 1) dX12_formula_129 (by decide) ?_
          refine r_isubN C (by omega) dX12_formula_130 ?_
          refine r_aload_n C 3 dX12_formula_131 rfl rfl ?_
          refine r_aload_n C 3 dX12_formula_132 rfl rfl ?_
          refine r_iload C 2 dX12_formula_133 rfl ?_
          refine r_aload_n C 3 dX12_formula_135 rfl rfl ?_
          refine r_getR C (b := (ma mb 28)) fl_X12_70 rfl hm.k (hm.r 28 rfl) dX12_formula_136 ?_
          refine r_iload C 0 dX12_formula_139 rfl ?_
          refine r_iconst C (v := nI 1) dX12_formula_141 (by decide) ?_
          refine r_isubN C (by omega) dX12_formula_142 ?_
          refine r_laloadN C (hm.i 28 21 rfl) (hm.n 28 10 rfl) (by omega) (by omega) dX12_formula_143 ?_
          refine V.el (y := fmP τ (mL M (ma mb 29)) b h e k (fmD τ e k - 2)) (hpl _ (by omega)) ?_
          refine r_aload_n C 3 dX12_formula_144 rfl rfl ?_
          refine r_getR C (b := (ma mb 28)) fl_X12_70 rfl hm.k (hm.r 28 rfl) dX12_formula_145 ?_
          refine r_iload C 0 dX12_formula_148 rfl ?_
          refine r_laloadN C (hm.i 28 21 rfl) (hm.n 28 10 rfl) (by omega) (by omega) dX12_formula_150 ?_
          refine V.el (y := fmP τ (mL M (ma mb 29)) b h e k (fmD τ e k - 1)) (hpl _ (by omega)) ?_
          refine r_callV C hgX (ci := 14) ml_X12_337 im_X12_joined se_X12_joined rfl rfl hm.k (c_X12_joined l hfl G M1 mb hm (un τ 22 (10 * e + k)) (by omega) (fmP τ (mL M (ma mb 29)) b h e k (fmD τ e k - 2)) (fmP τ (mL M (ma mb 29)) b h e k (fmD τ e k - 1))) rfl (Nat.le_of_ble_eq_true rfl) ⟨Nat.le_of_ble_eq_true rfl, Nat.le_of_ble_eq_true rfl⟩ ⟨Nat.le_of_ble_eq_true rfl, Nat.le_of_ble_eq_true rfl⟩ dX12_formula_151 rfl ?_
          rintro _ _ ⟨rfl, rfl⟩
          refine V.eSt (st' := [.long (joinL (un τ 22 (10 * e + k)) (fmP τ (mL M (ma mb 29)) b h e k (fmD τ e k - 2)) (fmP τ (mL M (ma mb 29)) b h e k (fmD τ e k - 1))), .ref mb, .int (nI ((fmD τ e k - 1) - 1)), .ref (ma mb 28)]) rfl ?_
          refine r_callV C hgX (ci := 14) ml_X12_333 im_X12_kept se_X12_kept rfl rfl hm.k (c_X12_kept l hfl G M1 mb (joinL (un τ 22 (10 * e + k)) (fmP τ (mL M (ma mb 29)) b h e k (fmD τ e k - 2)) (fmP τ (mL M (ma mb 29)) b h e k (fmD τ e k - 1)))) rfl (Nat.le_of_ble_eq_true rfl) ⟨Nat.le_of_ble_eq_true rfl, Nat.le_of_ble_eq_true rfl⟩ ⟨Nat.le_of_ble_eq_true rfl, Nat.le_of_ble_eq_true rfl⟩ dX12_formula_154 rfl ?_
          rintro _ _ ⟨rfl, rfl⟩
          refine V.eSt (st' := [.long (keptL (joinL (un τ 22 (10 * e + k)) (fmP τ (mL M (ma mb 29)) b h e k (fmD τ e k - 2)) (fmP τ (mL M (ma mb 29)) b h e k (fmD τ e k - 1)))), .int (nI ((fmD τ e k - 1) - 1)), .ref (ma mb 28)]) rfl ?_
          refine r_lastoreN C (hm.i 28 21 rfl) (hm.n 28 10 rfl) (by omega) (by omega) dX12_formula_157 ?_
          have hpl1 : ∀ i, i < fmD τ e (k + 1) → mL (wL M1 (ma mb 28) ((fmD τ e k - 1) - 1) (keptL (joinL (un τ 22 (10 * e + k)) (fmP τ (mL M (ma mb 29)) b h e k (fmD τ e k - 2)) (fmP τ (mL M (ma mb 29)) b h e k (fmD τ e k - 1))))) (ma mb 28) i = fmP τ (mL M (ma mb 29)) b h e (k + 1) i := by
            intro i hi
            rw [hfp1]
            rw [hfd1] at hi
            by_cases z : i = fmD τ e k - 2
            · subst z; exact (up2_same _ _ _ _).trans pk_uLs.symm
            · exact (up2_k _ _ z).trans ((hpl i (by omega)).trans (pk_uLn z).symm)
          refine r_iinc C (v := nI (k + 1)) (lo' := [(7, .int (nI (k + 1))), (6, .int (nI (fmD τ e k - 1))), (9, .int (τ.1 23 (10 * e + k))), (8, .int (nI (un τ 22 (10 * e + k)))), (0, .ref mb), (1, .int (nI e)), (2, .long b), (4, .long h)]) 7 dX12_formula_158 rfl (nI_addI k 1) (by decide) rfl ?_
          refine r_goto C (t := 6) dX12_formula_161 (by decide) ?_
          have jb6 : (fmD τ e k - 1) = (fmD τ e (k + 1)) := by rw [hfd1]
          refine V.eLo (lo' := [(7, .int (nI (k + 1))), (6, .int (nI (fmD τ e (k + 1)))), (9, .int (τ.1 23 (10 * e + k))), (8, .int (nI (un τ 22 (10 * e + k)))), (0, .ref mb), (1, .int (nI e)), (2, .long b), (4, .long h)]) (congrArg (fun z_ => ([(7, .int (nI (k + 1))), (6, .int (nI z_)), (9, .int (τ.1 23 (10 * e + k))), (8, .int (nI (un τ 22 (10 * e + k)))), (0, .ref mb), (1, .int (nI e)), (2, .long b), (4, .long h)] : List (Nat × Value))) jb6) ?_
          refine V.sub [4, 5, 6, 7, 1, 0] (lo' := [(0, .ref mb), (1, .int (nI e)), (2, .long b), (4, .long h), (6, .int (nI (fmD τ e (k + 1)))), (7, .int (nI (k + 1)))]) rfl ?_
          exact ih6 (wL M1 (ma mb 28) ((fmD τ e k - 1) - 1) (keptL (joinL (un τ 22 (10 * e + k)) (fmP τ (mL M (ma mb 29)) b h e k (fmD τ e k - 2)) (fmP τ (mL M (ma mb 29)) b h e k (fmD τ e k - 1))))) (k + 1) (by omega) (hfo.setL 28 _ _ rfl) hpl1 (by omega)
        · skip
          have hfd1 : fmD τ e (k + 1) = fmD τ e k + 1 := if_pos (by omega)
          have hfp1 : fmP τ (mL M (ma mb 29)) b h e (k + 1) = vp_updL (fmP τ (mL M (ma mb 29)) b h e k) (fmD τ e k) (keptL (singL τ (mL M (ma mb 29)) b h (10 * e + k))) := if_pos (by omega)
          refine r_aload_n C 2 dX12_formula_51 rfl rfl ?_
          refine r_getR C (b := (ma mb 28)) fl_X12_70 rfl hm.k (hm.r 28 rfl) dX12_formula_52 ?_
          refine r_iload C 6 dX12_formula_55 rfl ?_
          refine r_aload_n C 2 dX12_formula_57 rfl rfl ?_
          have jn110 : V pp l ee ({ frames := 3, cells := 0, slots := 0, locals := 75 } : Room) ss mm ar bw mt cd G (MQ bw (Ke G (fun v M' => v = some (.long (formL τ (mL M (ma mb 29)) b h e)) ∧ fOut [28] mb M M')) ar ss 0 0 (gA G)) 10 M1 0 0 110 [(8, .int (nI (un τ 22 (10 * e + k)))), (0, .ref mb), (1, .int (nI e)), (2, .long b), (4, .long h), (6, .int (nI (fmD τ e k))), (7, .int (nI k))] [.long (singL τ (mL M (ma mb 29)) b h (10 * e + k)), .ref mb, .int (nI (fmD τ e k)), .ref (ma mb 28)] := by
            skip
            refine r_callV C hgX (ci := 14) ml_X12_333 im_X12_kept se_X12_kept rfl rfl hm.k (c_X12_kept l hfl G M1 mb (singL τ (mL M (ma mb 29)) b h (10 * e + k))) rfl (Nat.le_of_ble_eq_true rfl) ⟨Nat.le_of_ble_eq_true rfl, Nat.le_of_ble_eq_true rfl⟩ ⟨Nat.le_of_ble_eq_true rfl, Nat.le_of_ble_eq_true rfl⟩ dX12_formula_110 rfl ?_
            rintro _ _ ⟨rfl, rfl⟩
            refine V.eSt (st' := [.long (keptL (singL τ (mL M (ma mb 29)) b h (10 * e + k))), .int (nI (fmD τ e k)), .ref (ma mb 28)]) rfl ?_
            refine r_lastoreN C (hm.i 28 21 rfl) (hm.n 28 10 rfl) (by omega) (by omega) dX12_formula_113 ?_
            refine r_iinc C (v := nI (fmD τ e k + 1)) (lo' := [(6, .int (nI (fmD τ e k + 1))), (8, .int (nI (un τ 22 (10 * e + k)))), (0, .ref mb), (1, .int (nI e)), (2, .long b), (4, .long h), (7, .int (nI k))]) 5 dX12_formula_114 rfl (nI_addI (fmD τ e k) 1) (by decide) rfl ?_
            refine r_goto C (t := 158) dX12_formula_117 (by decide) ?_
            have hpl1 : ∀ i, i < fmD τ e (k + 1) → mL (wL M1 (ma mb 28) (fmD τ e k) (keptL (singL τ (mL M (ma mb 29)) b h (10 * e + k)))) (ma mb 28) i = fmP τ (mL M (ma mb 29)) b h e (k + 1) i := by
              intro i hi
              rw [hfp1]
              rw [hfd1] at hi
              by_cases z : i = fmD τ e k
              · subst z; exact (up2_same _ _ _ _).trans pk_uLs.symm
              · exact (up2_k _ _ z).trans ((hpl i (by omega)).trans (pk_uLn z).symm)
            refine r_iinc C (v := nI (k + 1)) (lo' := [(7, .int (nI (k + 1))), (6, .int (nI (fmD τ e k + 1))), (8, .int (nI (un τ 22 (10 * e + k)))), (0, .ref mb), (1, .int (nI e)), (2, .long b), (4, .long h)]) 6 dX12_formula_158 rfl (nI_addI k 1) (by decide) rfl ?_
            refine r_goto C (t := 6) dX12_formula_161 (by decide) ?_
            have jb6 : (fmD τ e k + 1) = (fmD τ e (k + 1)) := by rw [hfd1]
            refine V.eLo (lo' := [(7, .int (nI (k + 1))), (6, .int (nI (fmD τ e (k + 1)))), (8, .int (nI (un τ 22 (10 * e + k)))), (0, .ref mb), (1, .int (nI e)), (2, .long b), (4, .long h)]) (congrArg (fun z_ => ([(7, .int (nI (k + 1))), (6, .int (nI z_)), (8, .int (nI (un τ 22 (10 * e + k)))), (0, .ref mb), (1, .int (nI e)), (2, .long b), (4, .long h)] : List (Nat × Value))) jb6) ?_
            refine V.sub [3, 4, 5, 6, 1, 0] (lo' := [(0, .ref mb), (1, .int (nI e)), (2, .long b), (4, .long h), (6, .int (nI (fmD τ e (k + 1)))), (7, .int (nI (k + 1)))]) rfl ?_
            exact ih6 (wL M1 (ma mb 28) (fmD τ e k) (keptL (singL τ (mL M (ma mb 29)) b h (10 * e + k)))) (k + 1) (by omega) (hfo.setL 28 _ _ rfl) hpl1 (by omega)
          refine r_iload C 1 dX12_formula_58 rfl ?_
          refine r_if_neN C (t := 67) (by omega) dX12_formula_60 (by decide) (fun c60 => ?_) (fun c60 => ?_)
          · skip
            refine r_iload C 1 dX12_formula_67 rfl ?_
            refine r_iconst C (v := nI 1) dX12_formula_69 (by decide) ?_
            refine r_icmp_neN C (t := 78) (by omega) (by omega) dX12_formula_70 (by decide) (fun c70 => ?_) (fun c70 => ?_)
            · skip
              refine r_iload C 1 dX12_formula_78 rfl ?_
              refine r_iconst C (v := nI 3) dX12_formula_80 (by decide) ?_
              refine r_icmp_neN C (t := 90) (by omega) (by omega) dX12_formula_81 (by decide) (fun c81 => ?_) (fun c81 => ?_)
              · skip
                have hen := hw.en e k (by omega) hk1 (by omega)
                rw [hen.1]
                have hen2 := hen.2
                refine r_iload C 0 dX12_formula_90 rfl ?_
                refine r_aload_n C 2 dX12_formula_92 rfl rfl ?_
                refine r_getI C fl_X12_316 rfl hm.k dX12_formula_93 ?_
                refine V.ei (y := nI (un τ 26 26)) ((ht.s 26 rfl).trans hw.ne.1) ?_
                refine r_icmp_geN C (t := 109) (by omega) (by omega) dX12_formula_96 (by decide) (fun c96 => ?_) (fun c96 => ?_)
                · skip
                  refine r_lconst C (v := lN 0) dX12_formula_109 (by decide) ?_
                  refine V.el (y := singL τ (mL M (ma mb 29)) b h (10 * e + k)) (by unfold singL; rw [if_neg c60, if_neg c70, if_neg c81, if_neg (by omega)]) ?_
                  refine V.sub [1, 2, 3, 4, 5, 6, 7] (lo' := [(8, .int (nI (un τ 22 (10 * e + k)))), (0, .ref mb), (1, .int (nI e)), (2, .long b), (4, .long h), (6, .int (nI (fmD τ e k))), (7, .int (nI k))]) rfl ?_
                  exact jn110
                · skip
                  refine r_aload_n C 2 dX12_formula_99 rfl rfl ?_
                  refine r_getR C (b := (ma mb 29)) fl_X12_74 rfl hm.k (hm.r 29 rfl) dX12_formula_100 ?_
                  refine r_iload C 0 dX12_formula_103 rfl ?_
                  refine r_laloadN C (hm.i 29 21 rfl) (hm.n 29 6 rfl) (by omega) (by omega) dX12_formula_105 ?_
                  refine V.el (y := mL M (ma mb 29) (un τ 23 (10 * e + k))) (congrFun (hfo.l 29 rfl) _) ?_
                  refine r_goto C (t := 110) dX12_formula_106 (by decide) ?_
                  refine V.el (y := singL τ (mL M (ma mb 29)) b h (10 * e + k)) (by unfold singL; rw [if_neg c60, if_neg c70, if_neg c81, if_pos (by omega)]) ?_
                  refine V.sub [1, 2, 3, 4, 5, 6, 7] (lo' := [(8, .int (nI (un τ 22 (10 * e + k)))), (0, .ref mb), (1, .int (nI e)), (2, .long b), (4, .long h), (6, .int (nI (fmD τ e k))), (7, .int (nI k))]) rfl ?_
                  exact jn110
              · skip
                refine r_iload C 0 dX12_formula_84 rfl ?_
                refine r_i2l C dX12_formula_86 ?_
                refine r_goto C (t := 110) dX12_formula_87 (by decide) ?_
                refine V.el (y := singL τ (mL M (ma mb 29)) b h (10 * e + k)) (by unfold singL; rw [if_neg c60, if_neg c70, if_pos c81]) ?_
                refine V.sub [1, 2, 3, 4, 5, 6, 7] (lo' := [(8, .int (nI (un τ 22 (10 * e + k)))), (0, .ref mb), (1, .int (nI e)), (2, .long b), (4, .long h), (6, .int (nI (fmD τ e k))), (7, .int (nI k))]) rfl ?_
                exact jn110
            · skip
              refine r_lload C 5 dX12_formula_73 rfl ?_
              refine r_goto C (t := 110) dX12_formula_75 (by decide) ?_
              refine V.el (y := singL τ (mL M (ma mb 29)) b h (10 * e + k)) (by unfold singL; rw [if_neg c60, if_pos c70]) ?_
              refine V.sub [1, 2, 3, 4, 5, 6, 7] (lo' := [(8, .int (nI (un τ 22 (10 * e + k)))), (0, .ref mb), (1, .int (nI e)), (2, .long b), (4, .long h), (6, .int (nI (fmD τ e k))), (7, .int (nI k))]) rfl ?_
              exact jn110
          · skip
            refine r_lload_n C 4 dX12_formula_63 rfl rfl ?_
            refine r_goto C (t := 110) dX12_formula_64 (by decide) ?_
            refine V.el (y := singL τ (mL M (ma mb 29)) b h (10 * e + k)) (by unfold singL; rw [if_pos c60]) ?_
            refine V.sub [1, 2, 3, 4, 5, 6, 7] (lo' := [(8, .int (nI (un τ 22 (10 * e + k)))), (0, .ref mb), (1, .int (nI e)), (2, .long b), (4, .long h), (6, .int (nI (fmD τ e k))), (7, .int (nI k))]) rfl ?_
            exact jn110
  refine V.sub [2, 3, 4, 5, 1, 0] (lo' := [(0, .ref mb), (1, .int (nI e)), (2, .long b), (4, .long h), (6, .int (nI 0)), (7, .int (nI 0))]) rfl ?_
  exact lp6 _ M 0 (Nat.zero_le _) (fOut.rf _ _ _) (fun i hi => absurd hi (Nat.not_lt_zero _)) (Nat.lt_succ_self _)
