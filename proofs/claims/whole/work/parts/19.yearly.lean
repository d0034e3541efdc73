set_option maxHeartbeats 4000000 in
set_option maxRecDepth 100000 in
theorem c_X12_yearly (l : Launch) (hfl : l.flags = flags0) (G : gW) (M : Mem) (mb : Nat) (τ : Mu) (hm : MOK (mK M) (mN M) (mR M) mb) (ht : TE (mI M) (mL M) mb τ) (hw : WF τ) (p s m : Nat) (hp : p < 3) (hs : s < 2) (hmn : m < 24) (x : Int64) : CT l yX12_yearly cX12_yearly 17 (some .long) 1 0 0 24 G M [.ref mb, .int (nI p), .int (nI s), .int (nI m), .long x] (fun v M' => v = some (.long (yearL τ (48 * p + 24 * s) m x)) ∧ M = M') := by
  refine CT.of hfl rfl (Nat.le_of_ble_eq_true rfl) ?_
  intro pp ee ss mm ar bw mt cd C hgX hr hini
  have hnc := hw.nc.2
  have hsh := hw.sh.2
  have hnl := hw.nl.2
  have hne := hw.ne.2
  have hng := hw.ng.2
  have hop := hw.op.2
  have hnp := hw.np.2
  refine V.eLo (lo' := [(0, .ref mb), (1, .int (nI p)), (2, .int (nI s)), (3, .int (nI m)), (4, .long x)]) rfl ?_
  refine r_bipush C (v := nI 48) dX12_yearly_0 (by decide) ?_
  refine r_iload_n C 1 dX12_yearly_2 rfl rfl ?_
  refine r_imulN C dX12_yearly_3 ?_
  refine r_bipush C (v := nI 24) dX12_yearly_4 (by decide) ?_
  refine r_iload_n C 2 dX12_yearly_6 rfl rfl ?_
  refine r_imulN C dX12_yearly_7 ?_
  refine r_iaddN C dX12_yearly_8 ?_
  refine r_istore C (lo' := [(6, .int (nI (48 * p + 24 * s))), (0, .ref mb), (1, .int (nI p)), (2, .int (nI s)), (3, .int (nI m)), (4, .long x)]) dX12_yearly_9 (by decide) rfl ?_
  refine r_aload_n C 1 dX12_yearly_11 rfl rfl ?_
  refine r_iconst C (v := nI 3) dX12_yearly_12 (by decide) ?_
  refine r_iload C 0 dX12_yearly_13 rfl ?_
  refine r_iload_n C 4 dX12_yearly_15 rfl rfl ?_
  refine r_callV C hgX (ci := 14) ml_X12_351 im_X12_lastOf se_X12_lastOf rfl rfl hm.k (c_X12_lastOf l hfl G M mb τ hm ht hw 3 (48 * p + 24 * s) m (by omega) (by omega) (by simp only [Nat.reduceEqDiff, if_true, if_false]; omega)) rfl (Nat.le_of_ble_eq_true rfl) ⟨Nat.le_of_ble_eq_true rfl, Nat.le_of_ble_eq_true rfl⟩ ⟨Nat.le_of_ble_eq_true rfl, Nat.le_of_ble_eq_true rfl⟩ dX12_yearly_16 rfl ?_
  rintro _ _ ⟨rfl, rfl⟩
  refine V.eSt (st' := [.int (oI (lastO τ 3 (48 * p + 24 * s) m))]) rfl ?_
  rcases hlo : lastO τ 3 (48 * p + 24 * s) m with _ | k
  · skip
    refine V.ei (y := -1) rfl ?_
    refine r_istore C (lo' := [(7, .int (-1)), (6, .int (nI (48 * p + 24 * s))), (0, .ref mb), (1, .int (nI p)), (2, .int (nI s)), (3, .int (nI m)), (4, .long x)]) dX12_yearly_19 (by decide) rfl ?_
    refine r_lconst C (v := lN 0) dX12_yearly_21 (by decide) ?_
    refine r_lstore C (lo' := [(8, .long (lN 0)), (7, .int (-1)), (6, .int (nI (48 * p + 24 * s))), (0, .ref mb), (1, .int (nI p)), (2, .int (nI s)), (3, .int (nI m)), (4, .long x)]) dX12_yearly_22 (by decide) rfl ?_
    refine r_lconst C (v := lN 0) dX12_yearly_24 (by decide) ?_
    refine r_lstore C (lo' := [(10, .long (lN 0)), (8, .long (lN 0)), (7, .int (-1)), (6, .int (nI (48 * p + 24 * s))), (0, .ref mb), (1, .int (nI p)), (2, .int (nI s)), (3, .int (nI m)), (4, .long x)]) dX12_yearly_25 (by decide) rfl ?_
    refine r_iconst C (v := nI 0) dX12_yearly_27 (by decide) ?_
    refine r_istore C (lo' := [(12, .int (nI 0)), (10, .long (lN 0)), (8, .long (lN 0)), (7, .int (-1)), (6, .int (nI (48 * p + 24 * s))), (0, .ref mb), (1, .int (nI p)), (2, .int (nI s)), (3, .int (nI m)), (4, .long x)]) dX12_yearly_28 (by decide) rfl ?_
    refine r_iload C 3 dX12_yearly_30 rfl ?_
    refine r_if_lt C (t := 137) dX12_yearly_32 (by decide) (fun c32 => ?_) (fun c32 => ?_)
    · skip
      refine r_lload C 2 dX12_yearly_137 rfl ?_
      exact r_lret C hr (⟨by unfold yearL; rw [hlo] <;> rfl, rfl⟩) (by first | exact Nat.zero_le _ | decide) (by first | exact Nat.zero_le _ | decide) dX12_yearly_139
    · exact absurd (by decide) c32
  · skip
    refine V.ei (y := nI k) rfl ?_
    have hk := (lastO_le hlo).1
    have hbn := (hw.bn ((48 * p + 24 * s) + k) (by omega)).2
    refine r_istore C (lo' := [(7, .int (nI k)), (6, .int (nI (48 * p + 24 * s))), (0, .ref mb), (1, .int (nI p)), (2, .int (nI s)), (3, .int (nI m)), (4, .long x)]) dX12_yearly_19 (by decide) rfl ?_
    refine r_lconst C (v := lN 0) dX12_yearly_21 (by decide) ?_
    refine r_lstore C (lo' := [(8, .long (lN 0)), (7, .int (nI k)), (6, .int (nI (48 * p + 24 * s))), (0, .ref mb), (1, .int (nI p)), (2, .int (nI s)), (3, .int (nI m)), (4, .long x)]) dX12_yearly_22 (by decide) rfl ?_
    refine r_lconst C (v := lN 0) dX12_yearly_24 (by decide) ?_
    refine r_lstore C (lo' := [(10, .long (lN 0)), (8, .long (lN 0)), (7, .int (nI k)), (6, .int (nI (48 * p + 24 * s))), (0, .ref mb), (1, .int (nI p)), (2, .int (nI s)), (3, .int (nI m)), (4, .long x)]) dX12_yearly_25 (by decide) rfl ?_
    refine r_iconst C (v := nI 0) dX12_yearly_27 (by decide) ?_
    refine r_istore C (lo' := [(12, .int (nI 0)), (10, .long (lN 0)), (8, .long (lN 0)), (7, .int (nI k)), (6, .int (nI (48 * p + 24 * s))), (0, .ref mb), (1, .int (nI p)), (2, .int (nI s)), (3, .int (nI m)), (4, .long x)]) dX12_yearly_28 (by decide) rfl ?_
    have lp30 : ∀ (k30 : Nat) (b : Nat) (hb : b ≤ un τ 33 ((48 * p + 24 * s) + k)), 5 - b < k30 → V pp l ee ({ frames := 1, cells := 0, slots := 0, locals := 24 } : Room) ss mm ar bw mt cd G (MQ bw (Ke G (fun v M' => v = some (.long (yearL τ (48 * p + 24 * s) m x)) ∧ M = M')) ar ss 0 0 (gA G)) 17 M 0 0 30 [(0, .ref mb), (1, .int (nI p)), (2, .int (nI s)), (3, .int (nI m)), (4, .long x), (6, .int (nI (48 * p + 24 * s))), (7, .int (nI k)), (8, .long (yrS τ ((48 * p + 24 * s) + k) x b)), (10, .long (lN (yrLow τ ((48 * p + 24 * s) + k) b))), (12, .int (nI b))] [] := by
      intro k30
      induction k30 with
      | zero => intro b hb hz30; exact absurd hz30 (Nat.not_lt_zero _)
      | succ k30 ih30 =>
        intro b hb hz30
        refine r_iload C 6 dX12_yearly_30 rfl ?_
        refine r_if_ltN C (t := 137) (by omega) dX12_yearly_32 (by decide) ?_
        refine r_iload C 9 dX12_yearly_35 rfl ?_
        refine r_aload_n C 0 dX12_yearly_37 rfl rfl ?_
        refine r_getR C (b := (ma mb 33)) fl_X12_86 rfl hm.k (hm.r 33 rfl) dX12_yearly_38 ?_
        refine r_iload C 5 dX12_yearly_41 rfl ?_
        refine r_iload C 6 dX12_yearly_43 rfl ?_
        refine r_iaddN C dX12_yearly_45 ?_
        refine r_ialoadN C (hm.i 33 20 rfl) (hm.n 33 144 rfl) (by omega) (by omega) dX12_yearly_46 ?_
        refine V.ei (y := nI (un τ 33 ((48 * p + 24 * s) + k))) ((ht.i 33 rfl _).trans (hw.bn ((48 * p + 24 * s) + k) (by omega)).1) ?_
        have hb0 := (hw.bn ((48 * p + 24 * s) + k) (by omega)).2
        refine r_icmp_geN C (t := 137) (by omega) (by omega) dX12_yearly_47 (by decide) (fun c47 => ?_) (fun c47 => ?_)
        · skip
          have eb : b = un τ 33 ((48 * p + 24 * s) + k) := by omega
          subst eb
          refine r_lload C 7 dX12_yearly_137 rfl ?_
          exact r_lret C hr (⟨by unfold yearL; rw [hlo] <;> rfl, rfl⟩) (by first | exact Nat.zero_le _ | decide) (by first | exact Nat.zero_le _ | decide) dX12_yearly_139
        · skip
          have hbb : b < un τ 33 ((48 * p + 24 * s) + k) := by omega
          refine r_aload_n C 0 dX12_yearly_50 rfl rfl ?_
          refine r_getR C (b := (ma mb 34)) fl_X12_89 rfl hm.k (hm.r 34 rfl) dX12_yearly_51 ?_
          refine r_iconst C (v := nI 4) dX12_yearly_54 (by decide) ?_
          refine r_iload C 5 dX12_yearly_55 rfl ?_
          refine r_iload C 6 dX12_yearly_57 rfl ?_
          refine r_iaddN C dX12_yearly_59 ?_
          refine r_imulN C dX12_yearly_60 ?_
          refine r_iload C 9 dX12_yearly_61 rfl ?_
          refine r_iaddN C dX12_yearly_63 ?_
          refine r_ialoadN C (hm.i 34 20 rfl) (hm.n 34 576 rfl) (by omega) (by omega) dX12_yearly_64 ?_
          refine V.ei (y := nI (un τ 34 (4 * ((48 * p + 24 * s) + k) + b))) ((ht.i 34 rfl _).trans (hw.be ((48 * p + 24 * s) + k) b (by omega) hbb).1) ?_
          have hb1 := (hw.be ((48 * p + 24 * s) + k) b (by omega) hbb).2
          refine r_i2lN C (by omega) dX12_yearly_65 ?_
          refine r_lstore C (lo' := [(13, .long (lN (un τ 34 (4 * ((48 * p + 24 * s) + k) + b)))), (0, .ref mb), (1, .int (nI p)), (2, .int (nI s)), (3, .int (nI m)), (4, .long x), (6, .int (nI (48 * p + 24 * s))), (7, .int (nI k)), (8, .long (yrS τ ((48 * p + 24 * s) + k) x b)), (10, .long (lN (yrLow τ ((48 * p + 24 * s) + k) b))), (12, .int (nI b))]) dX12_yearly_66 (by decide) rfl ?_
          have jn83 : V pp l ee ({ frames := 1, cells := 0, slots := 0, locals := 24 } : Room) ss mm ar bw mt cd G (MQ bw (Ke G (fun v M' => v = some (.long (yearL τ (48 * p + 24 * s) m x)) ∧ M = M')) ar ss 0 0 (gA G)) 17 M 0 0 83 [(13, .long (lN (un τ 34 (4 * ((48 * p + 24 * s) + k) + b)))), (0, .ref mb), (1, .int (nI p)), (2, .int (nI s)), (3, .int (nI m)), (4, .long x), (6, .int (nI (48 * p + 24 * s))), (7, .int (nI k)), (8, .long (yrS τ ((48 * p + 24 * s) + k) x b)), (10, .long (lN (yrLow τ ((48 * p + 24 * s) + k) b))), (12, .int (nI b))] [.long (if x < lN (un τ 34 (4 * ((48 * p + 24 * s) + k) + b)) then x else lN (un τ 34 (4 * ((48 * p + 24 * s) + k) + b)))] := by
            skip
            refine r_lload C 9 dX12_yearly_83 rfl ?_
            refine r_lsub C dX12_yearly_85 ?_
            refine r_lstore C (lo' := [(15, .long ((if x < lN (un τ 34 (4 * ((48 * p + 24 * s) + k) + b)) then x else lN (un τ 34 (4 * ((48 * p + 24 * s) + k) + b))) - (lN (yrLow τ ((48 * p + 24 * s) + k) b)))), (13, .long (lN (un τ 34 (4 * ((48 * p + 24 * s) + k) + b)))), (0, .ref mb), (1, .int (nI p)), (2, .int (nI s)), (3, .int (nI m)), (4, .long x), (6, .int (nI (48 * p + 24 * s))), (7, .int (nI k)), (8, .long (yrS τ ((48 * p + 24 * s) + k) x b)), (10, .long (lN (yrLow τ ((48 * p + 24 * s) + k) b))), (12, .int (nI b))]) dX12_yearly_86 (by decide) rfl ?_
            refine r_lload C 9 dX12_yearly_88 rfl ?_
            have jn124 : V pp l ee ({ frames := 1, cells := 0, slots := 0, locals := 24 } : Room) ss mm ar bw mt cd G (MQ bw (Ke G (fun v M' => v = some (.long (yearL τ (48 * p + 24 * s) m x)) ∧ M = M')) ar ss 0 0 (gA G)) 17 M 0 0 124 [(15, .long ((if x < lN (un τ 34 (4 * ((48 * p + 24 * s) + k) + b)) then x else lN (un τ 34 (4 * ((48 * p + 24 * s) + k) + b))) - (lN (yrLow τ ((48 * p + 24 * s) + k) b)))), (13, .long (lN (un τ 34 (4 * ((48 * p + 24 * s) + k) + b)))), (0, .ref mb), (1, .int (nI p)), (2, .int (nI s)), (3, .int (nI m)), (4, .long x), (6, .int (nI (48 * p + 24 * s))), (7, .int (nI k)), (8, .long (yrS τ ((48 * p + 24 * s) + k) x b)), (10, .long (lN (yrLow τ ((48 * p + 24 * s) + k) b))), (12, .int (nI b))] [.long (yrT τ ((48 * p + 24 * s) + k) b x), .long (yrS τ ((48 * p + 24 * s) + k) x b)] := by
              skip
              refine r_ladd C dX12_yearly_124 ?_
              refine r_lstore C (lo' := [(8, .long ((yrS τ ((48 * p + 24 * s) + k) x b) + (yrT τ ((48 * p + 24 * s) + k) b x))), (15, .long ((if x < lN (un τ 34 (4 * ((48 * p + 24 * s) + k) + b)) then x else lN (un τ 34 (4 * ((48 * p + 24 * s) + k) + b))) - (lN (yrLow τ ((48 * p + 24 * s) + k) b)))), (13, .long (lN (un τ 34 (4 * ((48 * p + 24 * s) + k) + b)))), (0, .ref mb), (1, .int (nI p)), (2, .int (nI s)), (3, .int (nI m)), (4, .long x), (6, .int (nI (48 * p + 24 * s))), (7, .int (nI k)), (10, .long (lN (yrLow τ ((48 * p + 24 * s) + k) b))), (12, .int (nI b))]) dX12_yearly_125 (by decide) rfl ?_
              refine r_lload C 2 dX12_yearly_127 rfl ?_
              refine r_lstore C (lo' := [(10, .long (lN (un τ 34 (4 * ((48 * p + 24 * s) + k) + b)))), (8, .long ((yrS τ ((48 * p + 24 * s) + k) x b) + (yrT τ ((48 * p + 24 * s) + k) b x))), (15, .long ((if x < lN (un τ 34 (4 * ((48 * p + 24 * s) + k) + b)) then x else lN (un τ 34 (4 * ((48 * p + 24 * s) + k) + b))) - (lN (yrLow τ ((48 * p + 24 * s) + k) b)))), (13, .long (lN (un τ 34 (4 * ((48 * p + 24 * s) + k) + b)))), (0, .ref mb), (1, .int (nI p)), (2, .int (nI s)), (3, .int (nI m)), (4, .long x), (6, .int (nI (48 * p + 24 * s))), (7, .int (nI k)), (12, .int (nI b))]) dX12_yearly_129 (by decide) rfl ?_
              refine r_iinc C (v := nI (b + 1)) (lo' := [(12, .int (nI (b + 1))), (10, .long (lN (un τ 34 (4 * ((48 * p + 24 * s) + k) + b)))), (8, .long ((yrS τ ((48 * p + 24 * s) + k) x b) + (yrT τ ((48 * p + 24 * s) + k) b x))), (15, .long ((if x < lN (un τ 34 (4 * ((48 * p + 24 * s) + k) + b)) then x else lN (un τ 34 (4 * ((48 * p + 24 * s) + k) + b))) - (lN (yrLow τ ((48 * p + 24 * s) + k) b)))), (13, .long (lN (un τ 34 (4 * ((48 * p + 24 * s) + k) + b)))), (0, .ref mb), (1, .int (nI p)), (2, .int (nI s)), (3, .int (nI m)), (4, .long x), (6, .int (nI (48 * p + 24 * s))), (7, .int (nI k))]) 11 dX12_yearly_131 rfl (nI_addI b 1) (by decide) rfl ?_
              refine r_goto C (t := 30) dX12_yearly_134 (by decide) ?_
              have jb8 : ((yrS τ ((48 * p + 24 * s) + k) x b) + (yrT τ ((48 * p + 24 * s) + k) b x)) = (yrS τ ((48 * p + 24 * s) + k) x (b + 1)) := by rfl
              refine V.eLo (lo' := [(12, .int (nI (b + 1))), (10, .long (lN (un τ 34 (4 * ((48 * p + 24 * s) + k) + b)))), (8, .long (yrS τ ((48 * p + 24 * s) + k) x (b + 1))), (15, .long ((if x < lN (un τ 34 (4 * ((48 * p + 24 * s) + k) + b)) then x else lN (un τ 34 (4 * ((48 * p + 24 * s) + k) + b))) - (lN (yrLow τ ((48 * p + 24 * s) + k) b)))), (13, .long (lN (un τ 34 (4 * ((48 * p + 24 * s) + k) + b)))), (0, .ref mb), (1, .int (nI p)), (2, .int (nI s)), (3, .int (nI m)), (4, .long x), (6, .int (nI (48 * p + 24 * s))), (7, .int (nI k))]) (congrArg (fun z_ => ([(12, .int (nI (b + 1))), (10, .long (lN (un τ 34 (4 * ((48 * p + 24 * s) + k) + b)))), (8, .long z_), (15, .long ((if x < lN (un τ 34 (4 * ((48 * p + 24 * s) + k) + b)) then x else lN (un τ 34 (4 * ((48 * p + 24 * s) + k) + b))) - (lN (yrLow τ ((48 * p + 24 * s) + k) b)))), (13, .long (lN (un τ 34 (4 * ((48 * p + 24 * s) + k) + b)))), (0, .ref mb), (1, .int (nI p)), (2, .int (nI s)), (3, .int (nI m)), (4, .long x), (6, .int (nI (48 * p + 24 * s))), (7, .int (nI k))] : List (Nat × Value))) jb8) ?_
              refine V.sub [5, 6, 7, 8, 9, 10, 11, 2, 1, 0] (lo' := [(0, .ref mb), (1, .int (nI p)), (2, .int (nI s)), (3, .int (nI m)), (4, .long x), (6, .int (nI (48 * p + 24 * s))), (7, .int (nI k)), (8, .long (yrS τ ((48 * p + 24 * s) + k) x (b + 1))), (10, .long (lN (un τ 34 (4 * ((48 * p + 24 * s) + k) + b)))), (12, .int (nI (b + 1)))]) rfl ?_
              exact ih30 (b + 1) (by omega) (by omega)
            refine r_lload C 0 dX12_yearly_90 rfl ?_
            refine r_lconst C (v := lN 0) dX12_yearly_92 (by decide) ?_
            refine r_lcmp_le C (t := 123) dX12_yearly_93 dX12_yearly_94 (by decide) (fun c94 => ?_) (fun c94 => ?_)
            · skip
              refine r_lconst C (v := lN 0) dX12_yearly_123 (by decide) ?_
              refine V.el (y := yrT τ ((48 * p + 24 * s) + k) b x) (by unfold yrT yrP; rw [if_neg (Int64.not_lt.mpr c94)]) ?_
              exact jn124
            · skip
              refine r_lload C 0 dX12_yearly_97 rfl ?_
              refine r_aload_n C 2 dX12_yearly_99 rfl rfl ?_
              refine r_getR C (b := (ma mb 35)) fl_X12_92 rfl hm.k (hm.r 35 rfl) dX12_yearly_100 ?_
              refine r_iconst C (v := nI 4) dX12_yearly_103 (by decide) ?_
              refine r_iload C 7 dX12_yearly_104 rfl ?_
              refine r_iload C 8 dX12_yearly_106 rfl ?_
              refine r_iaddN C dX12_yearly_108 ?_
              refine r_imulN C dX12_yearly_109 ?_
              refine r_iload C 11 dX12_yearly_110 rfl ?_
              refine r_iaddN C dX12_yearly_112 ?_
              refine r_ialoadN C (hm.i 35 20 rfl) (hm.n 35 576 rfl) (by omega) (by omega) dX12_yearly_113 ?_
              refine V.ei (y := nI (un τ 35 (4 * ((48 * p + 24 * s) + k) + b))) ((ht.i 35 rfl _).trans (hw.bt ((48 * p + 24 * s) + k) b (by omega) hbb).1) ?_
              have hb2 := (hw.bt ((48 * p + 24 * s) + k) b (by omega) hbb).2
              refine r_i2lN C (by omega) dX12_yearly_114 ?_
              refine r_lmul C dX12_yearly_115 ?_
              refine r_ldc2 C (v := 1000) kl_X12_331 dX12_yearly_116 ?_
              refine V.el (y := lN 1000) (by decide) ?_
              refine r_ldiv C dX12_yearly_119 (by decide) ?_
              refine r_goto C (t := 124) dX12_yearly_120 (by decide) ?_
              refine V.el (y := yrT τ ((48 * p + 24 * s) + k) b x) (by unfold yrT yrP; rw [if_pos (Int64.not_le.mp c94)]) ?_
              exact jn124
          refine r_lload C 5 dX12_yearly_68 rfl ?_
          refine r_lload C 0 dX12_yearly_70 rfl ?_
          refine r_lcmp_ge C (t := 81) dX12_yearly_72 dX12_yearly_73 (by decide) (fun c73 => ?_) (fun c73 => ?_)
          · skip
            refine r_lload C 0 dX12_yearly_81 rfl ?_
            refine V.el (y := if x < lN (un τ 34 (4 * ((48 * p + 24 * s) + k) + b)) then x else lN (un τ 34 (4 * ((48 * p + 24 * s) + k) + b))) (by rw [if_neg (Int64.not_lt.mpr c73)]) ?_
            exact jn83
          · skip
            refine r_lload C 5 dX12_yearly_76 rfl ?_
            refine r_goto C (t := 83) dX12_yearly_78 (by decide) ?_
            refine V.el (y := if x < lN (un τ 34 (4 * ((48 * p + 24 * s) + k) + b)) then x else lN (un τ 34 (4 * ((48 * p + 24 * s) + k) + b))) (by rw [if_pos (Int64.not_le.mp c73)]) ?_
            exact jn83
    refine V.sub [5, 6, 7, 8, 9, 4, 3, 2, 1, 0] (lo' := [(0, .ref mb), (1, .int (nI p)), (2, .int (nI s)), (3, .int (nI m)), (4, .long x), (6, .int (nI (48 * p + 24 * s))), (7, .int (nI k)), (8, .long (lN 0)), (10, .long (lN 0)), (12, .int (nI 0))]) rfl ?_
    exact lp30 _ 0 (Nat.zero_le _) (Nat.lt_succ_self _)
