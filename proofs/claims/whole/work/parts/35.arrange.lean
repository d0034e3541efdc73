set_option maxHeartbeats 4000000 in
set_option maxRecDepth 100000 in
theorem c_X12_arrange (l : Launch) (hfl : l.flags = flags0) (G : gW) (M : Mem) (mb : Nat) (τ : Mu) (hm : MOK (mK M) (mN M) (mR M) mb) (ht : TE (mI M) (mL M) mb τ) (hwe : WFe τ) (hac : acyc τ) : CT l yX12_arrange cX12_arrange 7 none 1 0 0 23 G M [.ref mb] (fun v M' => v = none ∧ fOut [27] mb M M' ∧ TE (mI M') (mL M') mb (arU τ (un τ 26 26))) := by
  refine CT.of hfl rfl (Nat.le_of_ble_eq_true rfl) ?_
  intro pp ee ss mm ar bw mt cd C hgX hr hini
  have hne := hwe.1.2
  refine V.eLo (lo' := [(0, .ref mb)]) rfl ?_
  refine r_iconst C (v := nI 0) dX12_arrange_0 (by decide) ?_
  refine r_istore_n C (lo' := [(1, .int (nI 0)), (0, .ref mb)]) dX12_arrange_1 rfl (by decide) rfl ?_
  refine r_iconst C (v := nI 1) dX12_arrange_2 (by decide) ?_
  refine r_aload_n C 1 dX12_arrange_3 rfl rfl ?_
  refine r_getI C fl_X12_316 rfl hm.k dX12_arrange_4 ?_
  refine V.ei (y := nI (un τ 26 26)) ((ht.s 26 rfl).trans hwe.1.1) ?_
  refine r_ishl C dX12_arrange_7 ?_
  refine V.ei (y := nI (2 ^ (un τ 26 26))) (nI_shl1 (by omega)) ?_
  refine r_iconst C (v := nI 1) dX12_arrange_8 (by decide) ?_
  refine r_isubN C (by exact Nat.one_le_two_pow) dX12_arrange_9 ?_
  refine r_istore_n C (lo' := [(2, .int (nI ((2 ^ (un τ 26 26)) - 1))), (1, .int (nI 0)), (0, .ref mb)]) dX12_arrange_10 rfl (by decide) rfl ?_
  refine r_iconst C (v := nI 0) dX12_arrange_11 (by decide) ?_
  refine r_istore_n C (lo' := [(3, .int (nI 0)), (2, .int (nI ((2 ^ (un τ 26 26)) - 1))), (1, .int (nI 0)), (0, .ref mb)]) dX12_arrange_12 rfl (by decide) rfl ?_
  have lp13 : ∀ (k13 : Nat) (M1 : Mem) (k : Nat) (hk : k ≤ un τ 26 26) (hfo : fOut [27] mb M M1) (hte : TE (mI M1) (mL M1) mb (arU τ k)), un τ 26 26 + 1 - k < k13 → V pp l ee ({ frames := 1, cells := 0, slots := 0, locals := 23 } : Room) ss mm ar bw mt cd G (MQ bw (Ke G (fun v M' => v = none ∧ fOut [27] mb M M' ∧ TE (mI M') (mL M') mb (arU τ (un τ 26 26)))) ar ss 0 0 (gA G)) 7 M1 0 0 13 [(0, .ref mb), (1, .int (nI (arrD τ k))), (2, .int (nI (2 ^ un τ 26 26 - 1))), (3, .int (nI k))] [] := by
    intro k13
    induction k13 with
    | zero => intro M1 k hk hfo hte hz13; exact absurd hz13 (Nat.not_lt_zero _)
    | succ k13 ih13 =>
      intro M1 k hk hfo hte hz13
      have hm := hfo.ok hm
      have hao := arr_ok hac hne k hk
      have hne1 := hne
      refine r_iload_n C 3 dX12_arrange_13 rfl rfl ?_
      refine r_aload_n C 0 dX12_arrange_14 rfl rfl ?_
      refine r_getI C fl_X12_316 rfl hm.k dX12_arrange_15 ?_
      refine V.ei (y := nI (un τ 26 26)) ((hte.s 26 rfl).trans hwe.1.1) ?_
      refine r_icmp_geN C (t := 109) (by omega) (by omega) dX12_arrange_18 (by decide) (fun c18 => ?_) (fun c18 => ?_)
      · skip
        have ek : k = un τ 26 26 := by omega
        subst ek
        exact r_vret C hr (⟨rfl, hfo, hte⟩) (by first | exact Nat.zero_le _ | decide) (by first | exact Nat.zero_le _ | decide) dX12_arrange_109
      · skip
        have hars := arr_s hac hne (show k < un τ 26 26 by omega)
        refine r_iconst C (v := (-1)) dX12_arrange_21 (by decide) ?_
        refine r_istore C (lo' := [(4, .int (-1)), (0, .ref mb), (1, .int (nI (arrD τ k))), (2, .int (nI (2 ^ un τ 26 26 - 1))), (3, .int (nI k))]) dX12_arrange_22 (by decide) rfl ?_
        refine r_aload_n C 1 dX12_arrange_24 rfl rfl ?_
        refine r_getI C fl_X12_316 rfl hm.k dX12_arrange_25 ?_
        refine V.ei (y := nI (un τ 26 26)) ((hte.s 26 rfl).trans hwe.1.1) ?_
        refine r_iconst C (v := nI 1) dX12_arrange_28 (by decide) ?_
        refine r_isub C dX12_arrange_29 ?_
        refine r_istore C (lo' := [(5, .int ((nI (un τ 26 26)) - (nI 1))), (4, .int (-1)), (0, .ref mb), (1, .int (nI (arrD τ k))), (2, .int (nI (2 ^ un τ 26 26 - 1))), (3, .int (nI k))]) dX12_arrange_30 (by decide) rfl ?_
        have lp32 : ∀ (k32 : Nat) (q : Nat) (x : Int32) (hq : q ≤ un τ 26 26) (hx : lowI (fitB τ (arrD τ k)) (un τ 26 26) q x), q + 1 < k32 → V pp l ee ({ frames := 1, cells := 0, slots := 0, locals := 23 } : Room) ss mm ar bw mt cd G (MQ bw (Ke G (fun v M' => v = none ∧ fOut [27] mb M M' ∧ TE (mI M') (mL M') mb (arU τ (un τ 26 26)))) ar ss 0 0 (gA G)) 7 M1 0 0 32 [(0, .ref mb), (1, .int (nI (arrD τ k))), (2, .int (nI (2 ^ un τ 26 26 - 1))), (3, .int (nI k)), (4, .int x), (5, .int (nI q - nI 1))] [] := by
          intro k32
          induction k32 with
          | zero => intro q x hq hx hz32; exact absurd hz32 (Nat.not_lt_zero _)
          | succ k32 ih32 =>
            intro q x hq hx hz32
            refine r_iload C 5 dX12_arrange_32 rfl ?_
            refine r_if_lt C (t := 88) dX12_arrange_34 (by decide) (fun c34 => ?_) (fun c34 => ?_)
            · skip
              have eq0 : q = 0 := (nI_lt0 (by omega)).mp c34
              subst eq0
              have hxx := hx.e hars.1
              have h2a : 2 ^ arrS τ (arrD τ k) ≤ 32 := p2_5 (by have := hars.2.1; omega)
              have hars1 := hars.2.1
              refine V.eLo (lo' := [(0, .ref mb), (1, .int (nI (arrD τ k))), (2, .int (nI (2 ^ un τ 26 26 - 1))), (3, .int (nI k)), (4, .int (nI (arrS τ (arrD τ k)))), (5, .int (nI 0 - nI 1))]) (by rw [hxx]) ?_
              refine r_aload_n C 0 dX12_arrange_88 rfl rfl ?_
              refine r_getR C (b := (ma mb 27)) fl_X12_67 rfl hm.k (hm.r 27 rfl) dX12_arrange_89 ?_
              refine r_iload_n C 3 dX12_arrange_92 rfl rfl ?_
              refine r_iload C 4 dX12_arrange_93 rfl ?_
              refine r_iastoreN C (hm.i 27 20 rfl) (hm.n 27 6 rfl) (by omega) (by omega) dX12_arrange_95 ?_
              refine r_iload_n C 1 dX12_arrange_96 rfl rfl ?_
              refine r_iconst C (v := nI 1) dX12_arrange_97 (by decide) ?_
              refine r_iload C 4 dX12_arrange_98 rfl ?_
              refine r_ishl C dX12_arrange_100 ?_
              refine V.ei (y := nI (2 ^ (arrS τ (arrD τ k)))) (nI_shl1 (by omega)) ?_
              refine r_ior C dX12_arrange_101 ?_
              refine V.ei (y := nI ((arrD τ k) ||| (2 ^ (arrS τ (arrD τ k))))) (nI_or (by omega) (by omega)) ?_
              refine r_istore_n C (lo' := [(1, .int (nI ((arrD τ k) ||| (2 ^ (arrS τ (arrD τ k)))))), (0, .ref mb), (2, .int (nI (2 ^ un τ 26 26 - 1))), (3, .int (nI k)), (4, .int (nI (arrS τ (arrD τ k)))), (5, .int (nI 0 - nI 1))]) dX12_arrange_102 rfl (by decide) rfl ?_
              refine r_iinc C (v := nI (k + 1)) (lo' := [(3, .int (nI (k + 1))), (1, .int (nI ((arrD τ k) ||| (2 ^ (arrS τ (arrD τ k)))))), (0, .ref mb), (2, .int (nI (2 ^ un τ 26 26 - 1))), (4, .int (nI (arrS τ (arrD τ k)))), (5, .int (nI 0 - nI 1))]) 3 dX12_arrange_103 rfl (nI_addI k 1) (by decide) rfl ?_
              refine r_goto C (t := 13) dX12_arrange_106 (by decide) ?_
              have jb1 : ((arrD τ k) ||| (2 ^ (arrS τ (arrD τ k)))) = (arrD τ (k + 1)) := by rfl
              refine V.eLo (lo' := [(3, .int (nI (k + 1))), (1, .int (nI (arrD τ (k + 1)))), (0, .ref mb), (2, .int (nI (2 ^ un τ 26 26 - 1))), (4, .int (nI (arrS τ (arrD τ k)))), (5, .int (nI 0 - nI 1))]) (congrArg (fun z_ => ([(3, .int (nI (k + 1))), (1, .int (nI z_)), (0, .ref mb), (2, .int (nI (2 ^ un τ 26 26 - 1))), (4, .int (nI (arrS τ (arrD τ k)))), (5, .int (nI 0 - nI 1))] : List (Nat × Value))) jb1) ?_
              refine V.sub [2, 1, 3, 0] (lo' := [(0, .ref mb), (1, .int (nI (arrD τ (k + 1)))), (2, .int (nI (2 ^ un τ 26 26 - 1))), (3, .int (nI (k + 1)))]) rfl ?_
              exact ih13 (wI M1 (ma mb 27) k (nI (arrS τ (arrD τ k)))) (k + 1) (by omega) (hfo.setI 27 _ _ rfl) (by rw [← arU_s]; exact hte.ui 27 _ _ rfl) (by omega)
            · skip
              have eq0 : q ≠ 0 := fun z => c34 ((nI_lt0 (by omega)).mpr z)
              obtain ⟨j, rfl⟩ : ∃ j, q = j + 1 := ⟨q - 1, by omega⟩
              rw [nI_pred1 j]
              have jn66 : V pp l ee ({ frames := 1, cells := 0, slots := 0, locals := 23 } : Room) ss mm ar bw mt cd G (MQ bw (Ke G (fun v M' => v = none ∧ fOut [27] mb M M' ∧ TE (mI M') (mL M') mb (arU τ (un τ 26 26)))) ar ss 0 0 (gA G)) 7 M1 0 0 66 [(0, .ref mb), (1, .int (nI (arrD τ k))), (2, .int (nI (2 ^ un τ 26 26 - 1))), (3, .int (nI k)), (4, .int x), (5, .int (nI j))] [.int (bI (fitB τ (arrD τ k) j))] := by
                skip
                refine r_istore C (lo' := [(6, .int (bI (fitB τ (arrD τ k) j))), (0, .ref mb), (1, .int (nI (arrD τ k))), (2, .int (nI (2 ^ un τ 26 26 - 1))), (3, .int (nI k)), (4, .int x), (5, .int (nI j))]) dX12_arrange_66 (by decide) rfl ?_
                refine r_iload C 0 dX12_arrange_68 rfl ?_
                refine r_if_eqB C (t := 78) dX12_arrange_70 (by decide) (fun c70 => ?_) (fun c70 => ?_)
                · skip
                  have hmst : lowI (fitB τ (arrD τ k)) (un τ 26 26) j x := hx.s c70
                  refine r_iload C 5 dX12_arrange_78 rfl ?_
                  refine r_istore C (lo' := [(4, .int x), (6, .int (bI (fitB τ (arrD τ k) j))), (0, .ref mb), (1, .int (nI (arrD τ k))), (2, .int (nI (2 ^ un τ 26 26 - 1))), (3, .int (nI k)), (5, .int (nI j))]) dX12_arrange_80 (by decide) rfl ?_
                  refine r_iinc C (v := (nI j) - nI 1) (lo' := [(5, .int ((nI j) - nI 1)), (4, .int x), (6, .int (bI (fitB τ (arrD τ k) j))), (0, .ref mb), (1, .int (nI (arrD τ k))), (2, .int (nI (2 ^ un τ 26 26 - 1))), (3, .int (nI k))]) 6 dX12_arrange_82 rfl (iI_dec _) (by decide) rfl ?_
                  refine r_goto C (t := 32) dX12_arrange_85 (by decide) ?_
                  refine V.sub [3, 4, 5, 6, 1, 0] (lo' := [(0, .ref mb), (1, .int (nI (arrD τ k))), (2, .int (nI (2 ^ un τ 26 26 - 1))), (3, .int (nI k)), (4, .int x), (5, .int ((nI j) - nI 1))]) rfl ?_
                  exact ih32 j x (by omega) hmst (by omega)
                · skip
                  have hmst : lowI (fitB τ (arrD τ k)) (un τ 26 26) j (nI j) := lowI.t (by omega) c70
                  refine r_iload C 6 dX12_arrange_73 rfl ?_
                  refine r_goto C (t := 80) dX12_arrange_75 (by decide) ?_
                  refine r_istore C (lo' := [(4, .int (nI j)), (6, .int (bI (fitB τ (arrD τ k) j))), (0, .ref mb), (1, .int (nI (arrD τ k))), (2, .int (nI (2 ^ un τ 26 26 - 1))), (3, .int (nI k)), (5, .int (nI j))]) dX12_arrange_80 (by decide) rfl ?_
                  refine r_iinc C (v := (nI j) - nI 1) (lo' := [(5, .int ((nI j) - nI 1)), (4, .int (nI j)), (6, .int (bI (fitB τ (arrD τ k) j))), (0, .ref mb), (1, .int (nI (arrD τ k))), (2, .int (nI (2 ^ un τ 26 26 - 1))), (3, .int (nI k))]) 6 dX12_arrange_82 rfl (iI_dec _) (by decide) rfl ?_
                  refine r_goto C (t := 32) dX12_arrange_85 (by decide) ?_
                  refine V.sub [3, 4, 5, 6, 1, 0] (lo' := [(0, .ref mb), (1, .int (nI (arrD τ k))), (2, .int (nI (2 ^ un τ 26 26 - 1))), (3, .int (nI k)), (4, .int (nI j)), (5, .int ((nI j) - nI 1))]) rfl ?_
                  exact ih32 j (nI j) (by omega) hmst (by omega)
              have hdv := div_le2 (arrD τ k) j
              have ha1 := and1_lt ((arrD τ k) / 2 ^ j)
              have hnl := needN_lt hwe (show j < 7 by omega)
              have h2n := sh1 hne
              have hal : needN τ j &&& (2 ^ un τ 26 26 - 1) ≤ needN τ j := Nat.and_le_left
              refine r_iload_n C 1 dX12_arrange_37 rfl rfl ?_
              refine r_iload C 5 dX12_arrange_38 rfl ?_
              refine r_ishr C dX12_arrange_40 ?_
              refine V.ei (y := nI ((arrD τ k) / 2 ^ j)) (nI_shr (by omega) (by omega)) ?_
              refine r_iconst C (v := nI 1) dX12_arrange_41 (by decide) ?_
              refine r_iand C dX12_arrange_42 ?_
              refine V.ei (y := nI (((arrD τ k) / 2 ^ j) &&& 1)) (nI_and (by omega) (by omega)) ?_
              refine r_if_neN C (t := 65) (by omega) dX12_arrange_43 (by decide) (fun c43 => ?_) (fun c43 => ?_)
              · skip
                refine r_iconst C (v := nI 0) dX12_arrange_65 (by decide) ?_
                refine V.eSt (st' := [.int (bI false)]) rfl ?_
                refine V.ei (y := bI (fitB τ (arrD τ k) j)) (congrArg bI (by rw [fitB, (Bool.not_eq_false _).mp (fun z => c43 ((tb0 _ _).mpr z))]; rfl)) ?_
                exact jn66
              · skip
                refine r_aload_n C 0 dX12_arrange_46 rfl rfl ?_
                refine r_iload C 5 dX12_arrange_47 rfl ?_
                refine r_callV C hgX (ci := 14) ml_X12_313 im_X12_needs se_X12_needs rfl rfl hm.k (c_X12_needs l hfl G M1 mb (arU τ k) hm hte (hwe.ar k) j (by omega)) rfl (Nat.le_of_ble_eq_true rfl) ⟨Nat.le_of_ble_eq_true rfl, Nat.le_of_ble_eq_true rfl⟩ ⟨Nat.le_of_ble_eq_true rfl, Nat.le_of_ble_eq_true rfl⟩ dX12_arrange_49 rfl ?_
                rintro _ _ ⟨rfl, rfl⟩
                refine V.eSt (st' := [.int (nI (needN (arU τ k) j))]) rfl ?_
                refine V.ei (y := nI (needN τ j)) (congrArg nI (needN_cg (τ := τ) (τ' := arU τ k) (fun _ => rfl) (fun _ => rfl) (fun _ => rfl) j)) ?_
                refine r_iload_n C 2 dX12_arrange_52 rfl rfl ?_
                refine r_iand C dX12_arrange_53 ?_
                refine V.ei (y := nI ((needN τ j) &&& (2 ^ un τ 26 26 - 1))) (nI_and (by omega) (by omega)) ?_
                refine r_iload_n C 1 dX12_arrange_54 rfl rfl ?_
                refine r_iconst C (v := (-1)) dX12_arrange_55 (by decide) ?_
                refine r_ixor C dX12_arrange_56 ?_
                refine r_iand C dX12_arrange_57 ?_
                refine r_if_ne C (t := 65) dX12_arrange_58 (by decide) (fun c58 => ?_) (fun c58 => ?_)
                · skip
                  refine r_iconst C (v := nI 0) dX12_arrange_65 (by decide) ?_
                  refine V.eSt (st' := [.int (bI false)]) rfl ?_
                  refine V.ei (y := bI (fitB τ (arrD τ k) j)) (congrArg bI (by rw [fitB, (tb0 _ _).mp c43, decide_eq_false (fun z => c58 ((andn0 (by omega)).mpr z))]; rfl)) ?_
                  exact jn66
                · skip
                  refine r_iconst C (v := nI 1) dX12_arrange_61 (by decide) ?_
                  refine r_goto C (t := 66) dX12_arrange_62 (by decide) ?_
                  refine V.eSt (st' := [.int (bI true)]) rfl ?_
                  refine V.ei (y := bI (fitB τ (arrD τ k) j)) (congrArg bI (by rw [fitB, (tb0 _ _).mp c43, decide_eq_true ((andn0 (by omega)).mp c58)]; rfl)) ?_
                  exact jn66
        refine V.sub [2, 3, 4, 5, 1, 0] (lo' := [(0, .ref mb), (1, .int (nI (arrD τ k))), (2, .int (nI (2 ^ un τ 26 26 - 1))), (3, .int (nI k)), (4, .int (-1)), (5, .int ((nI (un τ 26 26)) - (nI 1)))]) rfl ?_
        exact lp32 _ (un τ 26 26) (-1) (Nat.le_refl _) (.inl ⟨rfl, fun c h1 h2 => by omega⟩) (Nat.lt_succ_self _)
  refine V.sub [3, 2, 1, 0] (lo' := [(0, .ref mb), (1, .int (nI 0)), (2, .int (nI ((2 ^ (un τ 26 26)) - 1))), (3, .int (nI 0))]) rfl ?_
  exact lp13 _ M 0 (Nat.zero_le _) (fOut.rf _ _ _) (by rw [arU_0]; exact ht) (Nat.lt_succ_self _)
