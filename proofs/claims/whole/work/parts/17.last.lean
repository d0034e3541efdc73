set_option maxHeartbeats 4000000 in
set_option maxRecDepth 100000 in
theorem c_X12_lastOf (l : Launch) (hfl : l.flags = flags0) (G : gW) (M : Mem) (mb : Nat) (τ : Mu) (hm : MOK (mK M) (mN M) (mR M) mb) (ht : TE (mI M) (mL M) mb τ) (hw : WF τ) (r a m : Nat) (hr3 : r ≤ 3) (hmn : m < 24) (ha : a + m < if r = 0 then 72 else 144) : CT l yX12_lastOf cX12_lastOf 5 (some .int) 0 0 0 0 G M [.ref mb, .int (nI r), .int (nI a), .int (nI m)] (fun v M' => v = some (.int (oI (lastO τ r a m))) ∧ M = M') := by
  refine CT.of hfl rfl (Nat.le_of_ble_eq_true rfl) ?_
  intro pp ee ss mm ar bw mt cd C hgX hr hini
  have hnc := hw.nc.2
  have hsh := hw.sh.2
  have hnl := hw.nl.2
  have hne := hw.ne.2
  have hng := hw.ng.2
  have hop := hw.op.2
  have hnp := hw.np.2
  have ha2 : a + m < 144 := by split at ha <;> omega
  refine V.eLo (lo' := [(0, .ref mb), (1, .int (nI r)), (2, .int (nI a)), (3, .int (nI m))]) rfl ?_
  refine r_iload_n C 3 dX12_lastOf_0 rfl rfl ?_
  refine V.ei (y := nI (m + 1) - nI 1) (nI_pred1 m).symm ?_
  refine r_istore C (lo' := [(4, .int (nI (m + 1) - nI 1)), (0, .ref mb), (1, .int (nI r)), (2, .int (nI a)), (3, .int (nI m))]) dX12_lastOf_1 (by decide) rfl ?_
  have lp3 : ∀ (k3 : Nat) (q : Nat) (hq : q ≤ m + 1) (hal : ∀ j, q ≤ j → j < m + 1 → hasB τ r a j = false), q + 1 < k3 → V pp l ee ({ frames := 0, cells := 0, slots := 0, locals := 0 } : Room) ss mm ar bw mt cd G (MQ bw (Ke G (fun v M' => v = some (.int (oI (lastO τ r a m))) ∧ M = M')) ar ss 0 0 (gA G)) 5 M 0 0 3 [(0, .ref mb), (1, .int (nI r)), (2, .int (nI a)), (3, .int (nI m)), (4, .int (nI q - nI 1))] [] := by
    intro k3
    induction k3 with
    | zero => intro q hq hal hz3; exact absurd hz3 (Nat.not_lt_zero _)
    | succ k3 ih3 =>
      intro q hq hal hz3
      refine r_iload C 4 dX12_lastOf_3 rfl ?_
      refine r_if_lt C (t := 85) dX12_lastOf_5 (by decide) (fun c5 => ?_) (fun c5 => ?_)
      · skip
        have eq0 : q = 0 := (nI_lt0 (by omega)).mp c5
        subst eq0
        have hlo : lastO τ r a m = none := lst_s hal (by omega)
        refine r_iload C 4 dX12_lastOf_85 rfl ?_
        exact r_iret C hr (⟨by rw [hlo]; rfl, rfl⟩) (by first | exact Nat.zero_le _ | decide) (by first | exact Nat.zero_le _ | decide) dX12_lastOf_87
      · skip
        have eq0 : q ≠ 0 := fun z => c5 ((nI_lt0 (by omega)).mpr z)
        obtain ⟨k, rfl⟩ : ∃ k, q = k + 1 := ⟨q - 1, by omega⟩
        rw [nI_pred1 k]
        refine r_iload_n C 1 dX12_lastOf_8 rfl rfl ?_
        refine r_if_neN C (t := 27) (by omega) dX12_lastOf_9 (by decide) (fun c9 => ?_) (fun c9 => ?_)
        · skip
          refine r_iload_n C 1 dX12_lastOf_27 rfl rfl ?_
          refine r_iconst C (v := nI 1) dX12_lastOf_28 (by decide) ?_
          refine r_icmp_neN C (t := 47) (by omega) (by omega) dX12_lastOf_29 (by decide) (fun c29 => ?_) (fun c29 => ?_)
          · skip
            refine r_iload_n C 1 dX12_lastOf_47 rfl rfl ?_
            refine r_iconst C (v := nI 2) dX12_lastOf_48 (by decide) ?_
            refine r_icmp_neN C (t := 67) (by omega) (by omega) dX12_lastOf_49 (by decide) (fun c49 => ?_) (fun c49 => ?_)
            · skip
              refine r_aload_n C 0 dX12_lastOf_67 rfl rfl ?_
              refine r_getR C (b := (ma mb 33)) fl_X12_86 rfl hm.k (hm.r 33 rfl) dX12_lastOf_68 ?_
              refine r_iload_n C 2 dX12_lastOf_71 rfl rfl ?_
              refine r_iload C 4 dX12_lastOf_72 rfl ?_
              refine r_iaddN C dX12_lastOf_74 ?_
              refine r_ialoadN C (hm.i 33 20 rfl) (hm.n 33 144 rfl) (by omega) (by have := ha; simp only [if_neg c9] at this; omega) dX12_lastOf_75 ?_
              refine V.ei (y := nI (un τ 33 (a + k))) ((ht.i 33 rfl _).trans (hw.bn (a + k) (by have := ha; simp only [if_neg c9] at this; omega)).1) ?_
              have hb0 := (hw.bn (a + k) (by have := ha; simp only [if_neg c9] at this; omega)).2
              refine r_if_neN C (t := 85) (by omega) dX12_lastOf_76 (by decide) (fun c76 => ?_) (fun c76 => ?_)
              · skip
                have hf1 : hasB τ r a k = true := by unfold hasB; rw [if_neg c9, if_neg c29, if_neg c49]; exact decide_eq_true (by exact c76)
                have hlo : lastO τ r a m = some k := by
                  unfold lastO; rw [lst_s (k := k + 1) hal (by omega)]; show (if hasB τ r a k = true then some k else lstN (hasB τ r a) k) = _; rw [if_pos hf1]
                refine r_iload C 4 dX12_lastOf_85 rfl ?_
                exact r_iret C hr (⟨by rw [hlo]; rfl, rfl⟩) (by first | exact Nat.zero_le _ | decide) (by first | exact Nat.zero_le _ | decide) dX12_lastOf_87
              · skip
                have hf0 : hasB τ r a k = false := by unfold hasB; rw [if_neg c9, if_neg c29, if_neg c49]; exact decide_eq_false (by omega)
                have hnx : ∀ j, k ≤ j → j < m + 1 → hasB τ r a j = false := fun j h1 h2 => by by_cases z : j = k; (rw [z]; exact hf0); exact hal j (by omega) h2
                refine r_iinc C (v := (nI k) - nI 1) (lo' := [(4, .int ((nI k) - nI 1)), (0, .ref mb), (1, .int (nI r)), (2, .int (nI a)), (3, .int (nI m))]) 4 dX12_lastOf_79 rfl (iI_dec _) (by decide) rfl ?_
                refine r_goto C (t := 3) dX12_lastOf_82 (by decide) ?_
                refine V.sub [1, 2, 3, 4, 0] (lo' := [(0, .ref mb), (1, .int (nI r)), (2, .int (nI a)), (3, .int (nI m)), (4, .int ((nI k) - nI 1))]) rfl ?_
                exact ih3 k (by omega) hnx (by omega)
            · skip
              refine r_aload_n C 0 dX12_lastOf_52 rfl rfl ?_
              refine r_getR C (b := (ma mb 37)) fl_X12_98 rfl hm.k (hm.r 37 rfl) dX12_lastOf_53 ?_
              refine r_iload_n C 2 dX12_lastOf_56 rfl rfl ?_
              refine r_iload C 4 dX12_lastOf_57 rfl ?_
              refine r_iaddN C dX12_lastOf_59 ?_
              refine r_ialoadN C (hm.i 37 20 rfl) (hm.n 37 144 rfl) (by omega) (by have := ha; simp only [if_neg c9] at this; omega) dX12_lastOf_60 ?_
              refine V.ei (y := τ.1 37 (a + k)) (ht.i 37 rfl _) ?_
              refine r_if_ge C (t := 85) dX12_lastOf_61 (by decide) (fun c61 => ?_) (fun c61 => ?_)
              · skip
                have hf1 : hasB τ r a k = true := by unfold hasB; rw [if_neg c9, if_neg c29, if_pos c49]; exact decide_eq_true (by exact c61)
                have hlo : lastO τ r a m = some k := by
                  unfold lastO; rw [lst_s (k := k + 1) hal (by omega)]; show (if hasB τ r a k = true then some k else lstN (hasB τ r a) k) = _; rw [if_pos hf1]
                refine r_iload C 4 dX12_lastOf_85 rfl ?_
                exact r_iret C hr (⟨by rw [hlo]; rfl, rfl⟩) (by first | exact Nat.zero_le _ | decide) (by first | exact Nat.zero_le _ | decide) dX12_lastOf_87
              · skip
                have hf0 : hasB τ r a k = false := by unfold hasB; rw [if_neg c9, if_neg c29, if_pos c49]; exact decide_eq_false (by exact c61)
                have hnx : ∀ j, k ≤ j → j < m + 1 → hasB τ r a j = false := fun j h1 h2 => by by_cases z : j = k; (rw [z]; exact hf0); exact hal j (by omega) h2
                refine r_goto C (t := 79) dX12_lastOf_64 (by decide) ?_
                refine r_iinc C (v := (nI k) - nI 1) (lo' := [(4, .int ((nI k) - nI 1)), (0, .ref mb), (1, .int (nI r)), (2, .int (nI a)), (3, .int (nI m))]) 4 dX12_lastOf_79 rfl (iI_dec _) (by decide) rfl ?_
                refine r_goto C (t := 3) dX12_lastOf_82 (by decide) ?_
                refine V.sub [1, 2, 3, 4, 0] (lo' := [(0, .ref mb), (1, .int (nI r)), (2, .int (nI a)), (3, .int (nI m)), (4, .int ((nI k) - nI 1))]) rfl ?_
                exact ih3 k (by omega) hnx (by omega)
          · skip
            refine r_aload_n C 0 dX12_lastOf_32 rfl rfl ?_
            refine r_getR C (b := (ma mb 36)) fl_X12_95 rfl hm.k (hm.r 36 rfl) dX12_lastOf_33 ?_
            refine r_iload_n C 2 dX12_lastOf_36 rfl rfl ?_
            refine r_iload C 4 dX12_lastOf_37 rfl ?_
            refine r_iaddN C dX12_lastOf_39 ?_
            refine r_ialoadN C (hm.i 36 20 rfl) (hm.n 36 144 rfl) (by omega) (by have := ha; simp only [if_neg c9] at this; omega) dX12_lastOf_40 ?_
            refine V.ei (y := τ.1 36 (a + k)) (ht.i 36 rfl _) ?_
            refine r_if_ge C (t := 85) dX12_lastOf_41 (by decide) (fun c41 => ?_) (fun c41 => ?_)
            · skip
              have hf1 : hasB τ r a k = true := by unfold hasB; rw [if_neg c9, if_pos c29]; exact decide_eq_true (by exact c41)
              have hlo : lastO τ r a m = some k := by
                unfold lastO; rw [lst_s (k := k + 1) hal (by omega)]; show (if hasB τ r a k = true then some k else lstN (hasB τ r a) k) = _; rw [if_pos hf1]
              refine r_iload C 4 dX12_lastOf_85 rfl ?_
              exact r_iret C hr (⟨by rw [hlo]; rfl, rfl⟩) (by first | exact Nat.zero_le _ | decide) (by first | exact Nat.zero_le _ | decide) dX12_lastOf_87
            · skip
              have hf0 : hasB τ r a k = false := by unfold hasB; rw [if_neg c9, if_pos c29]; exact decide_eq_false (by exact c41)
              have hnx : ∀ j, k ≤ j → j < m + 1 → hasB τ r a j = false := fun j h1 h2 => by by_cases z : j = k; (rw [z]; exact hf0); exact hal j (by omega) h2
              refine r_goto C (t := 79) dX12_lastOf_44 (by decide) ?_
              refine r_iinc C (v := (nI k) - nI 1) (lo' := [(4, .int ((nI k) - nI 1)), (0, .ref mb), (1, .int (nI r)), (2, .int (nI a)), (3, .int (nI m))]) 4 dX12_lastOf_79 rfl (iI_dec _) (by decide) rfl ?_
              refine r_goto C (t := 3) dX12_lastOf_82 (by decide) ?_
              refine V.sub [1, 2, 3, 4, 0] (lo' := [(0, .ref mb), (1, .int (nI r)), (2, .int (nI a)), (3, .int (nI m)), (4, .int ((nI k) - nI 1))]) rfl ?_
              exact ih3 k (by omega) hnx (by omega)
        · skip
          refine r_aload_n C 0 dX12_lastOf_12 rfl rfl ?_
          refine r_getR C (b := (ma mb 31)) fl_X12_80 rfl hm.k (hm.r 31 rfl) dX12_lastOf_13 ?_
          refine r_iload_n C 2 dX12_lastOf_16 rfl rfl ?_
          refine r_iload C 4 dX12_lastOf_17 rfl ?_
          refine r_iaddN C dX12_lastOf_19 ?_
          refine r_ialoadN C (hm.i 31 20 rfl) (hm.n 31 72 rfl) (by omega) (by have := ha; simp only [if_pos c9] at this; omega) dX12_lastOf_20 ?_
          refine V.ei (y := τ.1 31 (a + k)) (ht.i 31 rfl _) ?_
          refine r_if_ge C (t := 85) dX12_lastOf_21 (by decide) (fun c21 => ?_) (fun c21 => ?_)
          · skip
            have hf1 : hasB τ r a k = true := by unfold hasB; rw [if_pos c9]; exact decide_eq_true (by exact c21)
            have hlo : lastO τ r a m = some k := by
              unfold lastO; rw [lst_s (k := k + 1) hal (by omega)]; show (if hasB τ r a k = true then some k else lstN (hasB τ r a) k) = _; rw [if_pos hf1]
            refine r_iload C 4 dX12_lastOf_85 rfl ?_
            exact r_iret C hr (⟨by rw [hlo]; rfl, rfl⟩) (by first | exact Nat.zero_le _ | decide) (by first | exact Nat.zero_le _ | decide) dX12_lastOf_87
          · skip
            have hf0 : hasB τ r a k = false := by unfold hasB; rw [if_pos c9]; exact decide_eq_false (by exact c21)
            have hnx : ∀ j, k ≤ j → j < m + 1 → hasB τ r a j = false := fun j h1 h2 => by by_cases z : j = k; (rw [z]; exact hf0); exact hal j (by omega) h2
            refine r_goto C (t := 79) dX12_lastOf_24 (by decide) ?_
            refine r_iinc C (v := (nI k) - nI 1) (lo' := [(4, .int ((nI k) - nI 1)), (0, .ref mb), (1, .int (nI r)), (2, .int (nI a)), (3, .int (nI m))]) 4 dX12_lastOf_79 rfl (iI_dec _) (by decide) rfl ?_
            refine r_goto C (t := 3) dX12_lastOf_82 (by decide) ?_
            refine V.sub [1, 2, 3, 4, 0] (lo' := [(0, .ref mb), (1, .int (nI r)), (2, .int (nI a)), (3, .int (nI m)), (4, .int ((nI k) - nI 1))]) rfl ?_
            exact ih3 k (by omega) hnx (by omega)
  refine V.sub [1, 2, 3, 4, 0] (lo' := [(0, .ref mb), (1, .int (nI r)), (2, .int (nI a)), (3, .int (nI m)), (4, .int (nI (m + 1) - nI 1))]) rfl ?_
  exact lp3 _ (m + 1) (Nat.le_refl _) (fun j h1 h2 => by omega) (Nat.lt_succ_self _)
