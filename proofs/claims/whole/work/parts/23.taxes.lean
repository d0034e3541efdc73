set_option maxHeartbeats 4000000 in
set_option maxRecDepth 100000 in
theorem c_X12_taxes (l : Launch) (hfl : l.flags = flags0) (G : gW) (M : Mem) (mb : Nat) (τ : Mu) (hm : MOK (mK M) (mN M) (mR M) mb) (ht : TE (mI M) (mL M) mb τ) (hw : WF τ) (p m q : Nat) (hp : p < 6) (hmn : m < 24) (hq : q < 3) : CT l yX12_taxes cX12_taxes 12 none 2 0 0 60 G M [.ref mb, .int (nI p), .int (nI m), .int (nI q)] (fun v M' => v = none ∧ fOut [58, 59] mb M M' ∧ mL M' (ma mb 58) (3 * m + q) = mL M (ma mb 55) (3 * m + q) - mL M (ma mb 57) (3 * m + q) - (if q = homeN τ p m then mL M (ma mb 60) m else lN 0) ∧ mL M' (ma mb 59) (3 * m + q) = dueM τ p q m (ysL M mb 58 m q + (mL M (ma mb 55) (3 * m + q) - mL M (ma mb 57) (3 * m + q) - (if q = homeN τ p m then mL M (ma mb 60) m else lN 0))) - ysL M mb 59 m q ∧ (∀ i, i ≠ 3 * m + q → mL M' (ma mb 58) i = mL M (ma mb 58) i) ∧ (∀ i, i ≠ 3 * m + q → mL M' (ma mb 59) i = mL M (ma mb 59) i)) := by
  refine CT.of hfl rfl (Nat.le_of_ble_eq_true rfl) ?_
  intro pp ee ss mm ar bw mt cd C hgX hr hini
  have hnc := hw.nc.2
  have hsh := hw.sh.2
  have hnl := hw.nl.2
  have hne := hw.ne.2
  have hng := hw.ng.2
  have hop := hw.op.2
  have hnp := hw.np.2
  refine V.eLo (lo' := [(0, .ref mb), (1, .int (nI p)), (2, .int (nI m)), (3, .int (nI q))]) rfl ?_
  refine r_iconst C (v := nI 3) dX12_taxes_0 (by decide) ?_
  refine r_iload_n C 2 dX12_taxes_1 rfl rfl ?_
  refine r_imulN C dX12_taxes_2 ?_
  refine r_iload_n C 3 dX12_taxes_3 rfl rfl ?_
  refine r_iaddN C dX12_taxes_4 ?_
  refine r_istore C (lo' := [(4, .int (nI (3 * m + q))), (0, .ref mb), (1, .int (nI p)), (2, .int (nI m)), (3, .int (nI q))]) dX12_taxes_5 (by decide) rfl ?_
  refine r_aload_n C 1 dX12_taxes_7 rfl rfl ?_
  refine r_iconst C (v := nI 1) dX12_taxes_8 (by decide) ?_
  refine r_bipush C (v := nI 24) dX12_taxes_9 (by decide) ?_
  refine r_iload_n C 2 dX12_taxes_11 rfl rfl ?_
  refine r_imulN C dX12_taxes_12 ?_
  refine r_iload_n C 3 dX12_taxes_13 rfl rfl ?_
  refine r_callV C hgX (ci := 14) ml_X12_351 im_X12_lastOf se_X12_lastOf rfl rfl hm.k (c_X12_lastOf l hfl G M mb τ hm ht hw 1 (24 * p) m (by omega) (by omega) (by rw [if_neg (by decide)]; omega)) rfl (Nat.le_of_ble_eq_true rfl) ⟨Nat.le_of_ble_eq_true rfl, Nat.le_of_ble_eq_true rfl⟩ ⟨Nat.le_of_ble_eq_true rfl, Nat.le_of_ble_eq_true rfl⟩ dX12_taxes_14 rfl ?_
  rintro _ _ ⟨rfl, rfl⟩
  refine V.eSt (st' := [.int (oI (lastO τ 1 (24 * p) m))]) rfl ?_
  refine r_istore C (lo' := [(5, .int (oI (lastO τ 1 (24 * p) m))), (4, .int (nI (3 * m + q))), (0, .ref mb), (1, .int (nI p)), (2, .int (nI m)), (3, .int (nI q))]) dX12_taxes_17 (by decide) rfl ?_
  have jn40 : V pp l ee ({ frames := 2, cells := 0, slots := 0, locals := 60 } : Room) ss mm ar bw mt cd G (MQ bw (Ke G (fun v M' => v = none ∧ fOut [58, 59] mb M M' ∧ mL M' (ma mb 58) (3 * m + q) = mL M (ma mb 55) (3 * m + q) - mL M (ma mb 57) (3 * m + q) - (if q = homeN τ p m then mL M (ma mb 60) m else lN 0) ∧ mL M' (ma mb 59) (3 * m + q) = dueM τ p q m (ysL M mb 58 m q + (mL M (ma mb 55) (3 * m + q) - mL M (ma mb 57) (3 * m + q) - (if q = homeN τ p m then mL M (ma mb 60) m else lN 0))) - ysL M mb 59 m q ∧ (∀ i, i ≠ 3 * m + q → mL M' (ma mb 58) i = mL M (ma mb 58) i) ∧ (∀ i, i ≠ 3 * m + q → mL M' (ma mb 59) i = mL M (ma mb 59) i))) ar ss 0 0 (gA G)) 12 M 0 0 40 [(5, .int (oI (lastO τ 1 (24 * p) m))), (4, .int (nI (3 * m + q))), (0, .ref mb), (1, .int (nI p)), (2, .int (nI m)), (3, .int (nI q))] [.int (nI (stN τ p m))] := by
    skip
    have hst := stN_le (m := m) hw hp hmn
    refine r_istore C (lo' := [(6, .int (nI (stN τ p m))), (5, .int (oI (lastO τ 1 (24 * p) m))), (4, .int (nI (3 * m + q))), (0, .ref mb), (1, .int (nI p)), (2, .int (nI m)), (3, .int (nI q))]) dX12_taxes_40 (by decide) rfl ?_
    refine r_iload_n C 5 dX12_taxes_42 rfl rfl ?_
    refine r_bipush C (v := nI 12) dX12_taxes_43 (by decide) ?_
    refine r_iremN C (by omega) (by omega) (by omega) dX12_taxes_45 ?_
    refine r_iconst C (v := nI 1) dX12_taxes_46 (by decide) ?_
    refine r_iaddN C dX12_taxes_47 ?_
    refine r_istore C (lo' := [(7, .int (nI (m % 12 + 1))), (6, .int (nI (stN τ p m))), (5, .int (oI (lastO τ 1 (24 * p) m))), (4, .int (nI (3 * m + q))), (0, .ref mb), (1, .int (nI p)), (2, .int (nI m)), (3, .int (nI q))]) dX12_taxes_48 (by decide) rfl ?_
    refine r_aload_n C 4 dX12_taxes_50 rfl rfl ?_
    refine r_getR C (b := (ma mb 58)) fl_X12_152 rfl hm.k (hm.r 58 rfl) dX12_taxes_51 ?_
    refine r_iload C 3 dX12_taxes_54 rfl ?_
    refine r_aload_n C 4 dX12_taxes_56 rfl rfl ?_
    refine r_getR C (b := (ma mb 55)) fl_X12_143 rfl hm.k (hm.r 55 rfl) dX12_taxes_57 ?_
    refine r_iload C 3 dX12_taxes_60 rfl ?_
    refine r_laloadN C (hm.i 55 21 rfl) (hm.n 55 72 rfl) (by omega) (by omega) dX12_taxes_62 ?_
    refine r_aload_n C 4 dX12_taxes_63 rfl rfl ?_
    refine r_getR C (b := (ma mb 57)) fl_X12_149 rfl hm.k (hm.r 57 rfl) dX12_taxes_64 ?_
    refine r_iload C 3 dX12_taxes_67 rfl ?_
    refine r_laloadN C (hm.i 57 21 rfl) (hm.n 57 72 rfl) (by omega) (by omega) dX12_taxes_69 ?_
    refine r_lsub C dX12_taxes_70 ?_
    have jn91 : V pp l ee ({ frames := 2, cells := 0, slots := 0, locals := 60 } : Room) ss mm ar bw mt cd G (MQ bw (Ke G (fun v M' => v = none ∧ fOut [58, 59] mb M M' ∧ mL M' (ma mb 58) (3 * m + q) = mL M (ma mb 55) (3 * m + q) - mL M (ma mb 57) (3 * m + q) - (if q = homeN τ p m then mL M (ma mb 60) m else lN 0) ∧ mL M' (ma mb 59) (3 * m + q) = dueM τ p q m (ysL M mb 58 m q + (mL M (ma mb 55) (3 * m + q) - mL M (ma mb 57) (3 * m + q) - (if q = homeN τ p m then mL M (ma mb 60) m else lN 0))) - ysL M mb 59 m q ∧ (∀ i, i ≠ 3 * m + q → mL M' (ma mb 58) i = mL M (ma mb 58) i) ∧ (∀ i, i ≠ 3 * m + q → mL M' (ma mb 59) i = mL M (ma mb 59) i))) ar ss 0 0 (gA G)) 12 M 0 0 91 [(7, .int (nI (m % 12 + 1))), (6, .int (nI (stN τ p m))), (5, .int (oI (lastO τ 1 (24 * p) m))), (4, .int (nI (3 * m + q))), (0, .ref mb), (1, .int (nI p)), (2, .int (nI m)), (3, .int (nI q))] [.long (if q = homeN τ p m then mL M (ma mb 60) m else lN 0), .long ((mL M (ma mb 55) (3 * m + q)) - (mL M (ma mb 57) (3 * m + q))), .int (nI (3 * m + q)), .ref (ma mb 58)] := by
      skip
      refine r_lsub C dX12_taxes_91 ?_
      refine r_lastoreN C (hm.i 58 21 rfl) (hm.n 58 72 rfl) (by omega) (by omega) dX12_taxes_92 ?_
      have ht : TE (mI (wL M (ma mb 58) (3 * m + q) (((mL M (ma mb 55) (3 * m + q)) - (mL M (ma mb 57) (3 * m + q))) - (if q = homeN τ p m then mL M (ma mb 60) m else lN 0)))) (mL (wL M (ma mb 58) (3 * m + q) (((mL M (ma mb 55) (3 * m + q)) - (mL M (ma mb 57) (3 * m + q))) - (if q = homeN τ p m then mL M (ma mb 60) m else lN 0)))) mb τ := ht.wl 58 (3 * m + q) (mL M (ma mb 55) (3 * m + q) - mL M (ma mb 57) (3 * m + q) - (if q = homeN τ p m then mL M (ma mb 60) m else lN 0)) rfl
      have hm : MOK (mK (wL M (ma mb 58) (3 * m + q) (((mL M (ma mb 55) (3 * m + q)) - (mL M (ma mb 57) (3 * m + q))) - (if q = homeN τ p m then mL M (ma mb 60) m else lN 0)))) (mN (wL M (ma mb 58) (3 * m + q) (((mL M (ma mb 55) (3 * m + q)) - (mL M (ma mb 57) (3 * m + q))) - (if q = homeN τ p m then mL M (ma mb 60) m else lN 0)))) (mR (wL M (ma mb 58) (3 * m + q) (((mL M (ma mb 55) (3 * m + q)) - (mL M (ma mb 57) (3 * m + q))) - (if q = homeN τ p m then mL M (ma mb 60) m else lN 0)))) mb := hm
      have hy58 : ysL (wL M (ma mb 58) (3 * m + q) (((mL M (ma mb 55) (3 * m + q)) - (mL M (ma mb 57) (3 * m + q))) - (if q = homeN τ p m then mL M (ma mb 60) m else lN 0))) mb 58 m q = ysL M mb 58 m q := ysL_cg (fun j hj => up2_k _ _ (by omega))
      have hy59 : ysL (wL M (ma mb 58) (3 * m + q) (((mL M (ma mb 55) (3 * m + q)) - (mL M (ma mb 57) (3 * m + q))) - (if q = homeN τ p m then mL M (ma mb 60) m else lN 0))) mb 59 m q = ysL M mb 59 m q := ysL_cg (fun j hj => congrFun (up2_row _ _ (ma_ne rfl)) _)
      have hx58 : mL (wL M (ma mb 58) (3 * m + q) (((mL M (ma mb 55) (3 * m + q)) - (mL M (ma mb 57) (3 * m + q))) - (if q = homeN τ p m then mL M (ma mb 60) m else lN 0))) (ma mb 58) (3 * m + q) = mL M (ma mb 55) (3 * m + q) - mL M (ma mb 57) (3 * m + q) - (if q = homeN τ p m then mL M (ma mb 60) m else lN 0) := up2_same _ _ _ _
      have hx59 : ∀ i, mL (wL M (ma mb 58) (3 * m + q) (((mL M (ma mb 55) (3 * m + q)) - (mL M (ma mb 57) (3 * m + q))) - (if q = homeN τ p m then mL M (ma mb 60) m else lN 0))) (ma mb 59) i = mL M (ma mb 59) i := fun i => congrFun (up2_row _ _ (ma_ne rfl)) _
      have hf58 : ∀ i, i ≠ 3 * m + q → mL (wL M (ma mb 58) (3 * m + q) (((mL M (ma mb 55) (3 * m + q)) - (mL M (ma mb 57) (3 * m + q))) - (if q = homeN τ p m then mL M (ma mb 60) m else lN 0))) (ma mb 58) i = mL M (ma mb 58) i := fun i hi => up2_k _ _ hi
      have hfo : fOut [58, 59] mb M (wL M (ma mb 58) (3 * m + q) (((mL M (ma mb 55) (3 * m + q)) - (mL M (ma mb 57) (3 * m + q))) - (if q = homeN τ p m then mL M (ma mb 60) m else lN 0))) := (fOut.rf _ _ _).setL 58 _ _ rfl
      generalize eM1 : (wL M (ma mb 58) (3 * m + q) (((mL M (ma mb 55) (3 * m + q)) - (mL M (ma mb 57) (3 * m + q))) - (if q = homeN τ p m then mL M (ma mb 60) m else lN 0))) = M1 at ht hm hy58 hy59 hx58 hx59 hf58 hfo ⊢
      refine r_aload_n C 4 dX12_taxes_93 rfl rfl ?_
      refine r_iconst C (v := nI 2) dX12_taxes_94 (by decide) ?_
      refine r_iload_n C 6 dX12_taxes_95 rfl rfl ?_
      refine r_iload_n C 7 dX12_taxes_96 rfl rfl ?_
      refine r_callV C hgX (ci := 14) ml_X12_367 im_X12_yearSum se_X12_yearSum rfl rfl hm.k (c_X12_yearSum l hfl G M1 mb hm 2 m q (by omega) (by omega) (by omega)) rfl (Nat.le_of_ble_eq_true rfl) ⟨Nat.le_of_ble_eq_true rfl, Nat.le_of_ble_eq_true rfl⟩ ⟨Nat.le_of_ble_eq_true rfl, Nat.le_of_ble_eq_true rfl⟩ dX12_taxes_97 rfl ?_
      rintro _ _ ⟨rfl, rfl⟩
      refine V.eSt (st' := [.long (ysL M1 mb 58 m q)]) rfl ?_
      refine V.el (y := ysL M mb 58 m q) hy58 ?_
      refine r_aload_n C 4 dX12_taxes_100 rfl rfl ?_
      refine r_getR C (b := (ma mb 58)) fl_X12_152 rfl hm.k (hm.r 58 rfl) dX12_taxes_101 ?_
      refine r_iload C 3 dX12_taxes_104 rfl ?_
      refine r_laloadN C (hm.i 58 21 rfl) (hm.n 58 72 rfl) (by omega) (by omega) dX12_taxes_106 ?_
      refine V.el (y := mL M (ma mb 55) (3 * m + q) - mL M (ma mb 57) (3 * m + q) - (if q = homeN τ p m then mL M (ma mb 60) m else lN 0)) (hx58) ?_
      refine r_ladd C dX12_taxes_107 ?_
      refine r_lstore C (lo' := [(8, .long ((ysL M mb 58 m q) + (mL M (ma mb 55) (3 * m + q) - mL M (ma mb 57) (3 * m + q) - (if q = homeN τ p m then mL M (ma mb 60) m else lN 0)))), (7, .int (nI (m % 12 + 1))), (6, .int (nI (stN τ p m))), (5, .int (oI (lastO τ 1 (24 * p) m))), (4, .int (nI (3 * m + q))), (0, .ref mb), (1, .int (nI p)), (2, .int (nI m)), (3, .int (nI q))]) dX12_taxes_108 (by decide) rfl ?_
      refine r_aload_n C 5 dX12_taxes_110 rfl rfl ?_
      refine r_iload_n C 8 dX12_taxes_111 rfl rfl ?_
      refine r_iload C 2 dX12_taxes_112 rfl ?_
      refine r_iload_n C 7 dX12_taxes_114 rfl rfl ?_
      have jn128 : V pp l ee ({ frames := 2, cells := 0, slots := 0, locals := 60 } : Room) ss mm ar bw mt cd G (MQ bw (Ke G (fun v M' => v = none ∧ fOut [58, 59] mb M M' ∧ mL M' (ma mb 58) (3 * m + q) = mL M (ma mb 55) (3 * m + q) - mL M (ma mb 57) (3 * m + q) - (if q = homeN τ p m then mL M (ma mb 60) m else lN 0) ∧ mL M' (ma mb 59) (3 * m + q) = dueM τ p q m (ysL M mb 58 m q + (mL M (ma mb 55) (3 * m + q) - mL M (ma mb 57) (3 * m + q) - (if q = homeN τ p m then mL M (ma mb 60) m else lN 0))) - ysL M mb 59 m q ∧ (∀ i, i ≠ 3 * m + q → mL M' (ma mb 58) i = mL M (ma mb 58) i) ∧ (∀ i, i ≠ 3 * m + q → mL M' (ma mb 59) i = mL M (ma mb 59) i))) ar ss 0 0 (gA G)) 12 M1 0 0 128 [(8, .long ((ysL M mb 58 m q) + (mL M (ma mb 55) (3 * m + q) - mL M (ma mb 57) (3 * m + q) - (if q = homeN τ p m then mL M (ma mb 60) m else lN 0)))), (7, .int (nI (m % 12 + 1))), (6, .int (nI (stN τ p m))), (5, .int (oI (lastO τ 1 (24 * p) m))), (4, .int (nI (3 * m + q))), (0, .ref mb), (1, .int (nI p)), (2, .int (nI m)), (3, .int (nI q))] [.long (pzL (ysL M mb 58 m q + (mL M (ma mb 55) (3 * m + q) - mL M (ma mb 57) (3 * m + q) - (if q = homeN τ p m then mL M (ma mb 60) m else lN 0)))), .int (nI m), .int (nI (stN τ p m)), .int (nI q), .ref mb] := by
        skip
        refine r_ldc2 C (v := 12) kl_X12_288 dX12_taxes_128 ?_
        refine V.el (y := lN 12) (by decide) ?_
        refine r_lmul C dX12_taxes_131 ?_
        refine r_iload C 1 dX12_taxes_132 rfl ?_
        refine r_i2lN C (by omega) dX12_taxes_134 ?_
        refine r_ldiv C dX12_taxes_135 (lN_ne0 (by omega) (by omega)) ?_
        refine r_callV C hgX (ci := 14) ml_X12_357 im_X12_yearly se_X12_yearly rfl rfl hm.k (c_X12_yearly l hfl G M1 mb τ hm ht hw q (stN τ p m) m (by omega) (by omega) (by omega) (((pzL (ysL M mb 58 m q + (mL M (ma mb 55) (3 * m + q) - mL M (ma mb 57) (3 * m + q) - (if q = homeN τ p m then mL M (ma mb 60) m else lN 0)))) * (lN 12)) / (lN (m % 12 + 1)))) rfl (Nat.le_of_ble_eq_true rfl) ⟨Nat.le_of_ble_eq_true rfl, Nat.le_of_ble_eq_true rfl⟩ ⟨Nat.le_of_ble_eq_true rfl, Nat.le_of_ble_eq_true rfl⟩ dX12_taxes_136 rfl ?_
        rintro _ _ ⟨rfl, rfl⟩
        refine V.eSt (st' := [.long (yearL τ (48 * q + 24 * (stN τ p m)) m (((pzL (ysL M mb 58 m q + (mL M (ma mb 55) (3 * m + q) - mL M (ma mb 57) (3 * m + q) - (if q = homeN τ p m then mL M (ma mb 60) m else lN 0)))) * (lN 12)) / (lN (m % 12 + 1))))]) rfl ?_
        refine r_lstore C (lo' := [(10, .long (yearL τ (48 * q + 24 * (stN τ p m)) m (((pzL (ysL M mb 58 m q + (mL M (ma mb 55) (3 * m + q) - mL M (ma mb 57) (3 * m + q) - (if q = homeN τ p m then mL M (ma mb 60) m else lN 0)))) * (lN 12)) / (lN (m % 12 + 1))))), (8, .long ((ysL M mb 58 m q) + (mL M (ma mb 55) (3 * m + q) - mL M (ma mb 57) (3 * m + q) - (if q = homeN τ p m then mL M (ma mb 60) m else lN 0)))), (7, .int (nI (m % 12 + 1))), (6, .int (nI (stN τ p m))), (5, .int (oI (lastO τ 1 (24 * p) m))), (4, .int (nI (3 * m + q))), (0, .ref mb), (1, .int (nI p)), (2, .int (nI m)), (3, .int (nI q))]) dX12_taxes_139 (by decide) rfl ?_
        refine r_aload_n C 6 dX12_taxes_141 rfl rfl ?_
        refine r_getR C (b := (ma mb 59)) fl_X12_155 rfl hm.k (hm.r 59 rfl) dX12_taxes_142 ?_
        refine r_iload C 5 dX12_taxes_145 rfl ?_
        refine r_lload C 0 dX12_taxes_147 rfl ?_
        refine r_iload C 2 dX12_taxes_149 rfl ?_
        refine r_i2lN C (by omega) dX12_taxes_151 ?_
        refine r_lmul C dX12_taxes_152 ?_
        refine r_ldc2 C (v := 12) kl_X12_288 dX12_taxes_153 ?_
        refine V.el (y := lN 12) (by decide) ?_
        refine r_ldiv C dX12_taxes_156 (by decide) ?_
        refine r_aload_n C 6 dX12_taxes_157 rfl rfl ?_
        refine r_iconst C (v := nI 3) dX12_taxes_158 (by decide) ?_
        refine r_iload_n C 8 dX12_taxes_159 rfl rfl ?_
        refine r_iload_n C 9 dX12_taxes_160 rfl rfl ?_
        refine r_callV C hgX (ci := 14) ml_X12_367 im_X12_yearSum se_X12_yearSum rfl rfl hm.k (c_X12_yearSum l hfl G M1 mb hm 3 m q (by omega) (by omega) (by omega)) rfl (Nat.le_of_ble_eq_true rfl) ⟨Nat.le_of_ble_eq_true rfl, Nat.le_of_ble_eq_true rfl⟩ ⟨Nat.le_of_ble_eq_true rfl, Nat.le_of_ble_eq_true rfl⟩ dX12_taxes_161 rfl ?_
        rintro _ _ ⟨rfl, rfl⟩
        refine V.eSt (st' := [.long (ysL M1 mb 59 m q), .long (((yearL τ (48 * q + 24 * (stN τ p m)) m (((pzL (ysL M mb 58 m q + (mL M (ma mb 55) (3 * m + q) - mL M (ma mb 57) (3 * m + q) - (if q = homeN τ p m then mL M (ma mb 60) m else lN 0)))) * (lN 12)) / (lN (m % 12 + 1)))) * (lN (m % 12 + 1))) / (lN 12)), .int (nI (3 * m + q)), .ref (ma mb 59)]) rfl ?_
        refine V.el (y := ysL M mb 59 m q) hy59 ?_
        refine r_lsub C dX12_taxes_164 ?_
        refine r_lastoreN C (hm.i 59 21 rfl) (hm.n 59 72 rfl) (by omega) (by omega) dX12_taxes_165 ?_
        exact r_vret C hr (⟨rfl, hfo.setL 59 _ _ rfl, (congrFun (up2_row _ _ (ma_ne rfl)) _).trans hx58, up2_same _ _ _ _, fun i hi => (congrFun (up2_row _ _ (ma_ne rfl)) _).trans (hf58 i hi), fun i hi => (up2_k _ _ hi).trans (hx59 i)⟩) (by first | exact Nat.zero_le _ | decide) (by first | exact Nat.zero_le _ | decide) dX12_taxes_166
      refine r_lload C 0 dX12_taxes_115 rfl ?_
      refine r_lconst C (v := lN 0) dX12_taxes_117 (by decide) ?_
      refine r_lcmp_le C (t := 127) dX12_taxes_118 dX12_taxes_119 (by decide) (fun c119 => ?_) (fun c119 => ?_)
      · skip
        refine r_lconst C (v := lN 0) dX12_taxes_127 (by decide) ?_
        refine V.el (y := pzL (ysL M mb 58 m q + (mL M (ma mb 55) (3 * m + q) - mL M (ma mb 57) (3 * m + q) - (if q = homeN τ p m then mL M (ma mb 60) m else lN 0)))) (by unfold pzL; rw [if_neg (Int64.not_lt.mpr c119)]) ?_
        exact jn128
      · skip
        refine r_lload C 0 dX12_taxes_122 rfl ?_
        refine r_goto C (t := 128) dX12_taxes_124 (by decide) ?_
        refine V.el (y := pzL (ysL M mb 58 m q + (mL M (ma mb 55) (3 * m + q) - mL M (ma mb 57) (3 * m + q) - (if q = homeN τ p m then mL M (ma mb 60) m else lN 0)))) (by unfold pzL; rw [if_pos (Int64.not_le.mp c119)]) ?_
        exact jn128
    have hh2 := homeN_le hw p m
    refine r_iload_n C 7 dX12_taxes_71 rfl rfl ?_
    refine r_aload_n C 4 dX12_taxes_72 rfl rfl ?_
    refine r_iload_n C 5 dX12_taxes_73 rfl rfl ?_
    refine r_iload_n C 6 dX12_taxes_74 rfl rfl ?_
    refine r_callV C hgX (ci := 14) ml_X12_364 im_X12_home se_X12_home rfl rfl hm.k (c_X12_home l hfl G M mb τ hm ht hw p m (by omega) (by omega)) rfl (Nat.le_of_ble_eq_true rfl) ⟨Nat.le_of_ble_eq_true rfl, Nat.le_of_ble_eq_true rfl⟩ ⟨Nat.le_of_ble_eq_true rfl, Nat.le_of_ble_eq_true rfl⟩ dX12_taxes_75 rfl ?_
    rintro _ _ ⟨rfl, rfl⟩
    refine V.eSt (st' := [.int (nI (homeN τ p m)), .int (nI q), .long ((mL M (ma mb 55) (3 * m + q)) - (mL M (ma mb 57) (3 * m + q))), .int (nI (3 * m + q)), .ref (ma mb 58)]) rfl ?_
    refine r_icmp_neN C (t := 90) (by omega) (by have := homeN_le hw p m; omega) dX12_taxes_78 (by decide) (fun c78 => ?_) (fun c78 => ?_)
    · skip
      refine r_lconst C (v := lN 0) dX12_taxes_90 (by decide) ?_
      refine V.el (y := if q = homeN τ p m then mL M (ma mb 60) m else lN 0) (by rw [if_neg c78]) ?_
      exact jn91
    · skip
      refine r_aload_n C 4 dX12_taxes_81 rfl rfl ?_
      refine r_getR C (b := (ma mb 60)) fl_X12_158 rfl hm.k (hm.r 60 rfl) dX12_taxes_82 ?_
      refine r_iload_n C 6 dX12_taxes_85 rfl rfl ?_
      refine r_laloadN C (hm.i 60 21 rfl) (hm.n 60 24 rfl) (by omega) (by omega) dX12_taxes_86 ?_
      refine r_goto C (t := 91) dX12_taxes_87 (by decide) ?_
      refine V.el (y := if q = homeN τ p m then mL M (ma mb 60) m else lN 0) (by rw [if_pos c78]) ?_
      exact jn91
  refine r_iload C 0 dX12_taxes_19 rfl ?_
  refine r_if_ge C (t := 28) dX12_taxes_21 (by decide) (fun c21 => ?_) (fun c21 => ?_)
  · skip
    obtain ⟨k, hlo⟩ := oI_some c21
    have hk1 := (lastO_le hlo).1
    have hk2 := (lastO_le hlo).2
    refine r_aload_n C 2 dX12_taxes_28 rfl rfl ?_
    refine r_getR C (b := (ma mb 36)) fl_X12_95 rfl hm.k (hm.r 36 rfl) dX12_taxes_29 ?_
    refine r_bipush C (v := nI 24) dX12_taxes_32 (by decide) ?_
    refine r_iload_n C 3 dX12_taxes_34 rfl rfl ?_
    refine r_imulN C dX12_taxes_35 ?_
    refine r_iload C 0 dX12_taxes_36 rfl ?_
    refine V.ei (y := nI k) (by rw [hlo]; rfl) ?_
    refine r_iaddN C dX12_taxes_38 ?_
    refine r_ialoadN C (hm.i 36 20 rfl) (hm.n 36 144 rfl) (by omega) (by omega) dX12_taxes_39 ?_
    refine V.ei (y := nI (un τ 36 (24 * p + k))) ((ht.i 36 rfl _).trans (hasB1 hw (by omega) hk2).1) ?_
    have hb2 := (hasB1 hw (by omega) hk2).2
    refine V.ei (y := nI (stN τ p m)) (congrArg nI (by unfold stN; rw [hlo])) ?_
    exact jn40
  · skip
    refine r_iconst C (v := nI 0) dX12_taxes_24 (by decide) ?_
    refine r_goto C (t := 40) dX12_taxes_25 (by decide) ?_
    refine V.ei (y := nI (stN τ p m)) (congrArg nI (by unfold stN; rw [oI_none (lastO_b hmn) c21])) ?_
    exact jn40
