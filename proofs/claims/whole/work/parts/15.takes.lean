set_option maxHeartbeats 4000000 in
set_option maxRecDepth 100000 in
theorem c_X12_takes (l : Launch) (hfl : l.flags = flags0) (G : gW) (M : Mem) (mb : Nat) (τ : Mu) (hm : MOK (mK M) (mN M) (mR M) mb) (ht : TE (mI M) (mL M) mb τ) (hw : WF τ) (p d : Nat) (hp : p < 6) (hd : d ≤ 720) : CT l yX12_takes cX12_takes 8 none 2 0 0 50 G M [.ref mb, .int (nI p), .int (nI d)] (fun v M' => v = none ∧ fOut [16, 21] mb M M' ∧ (∀ k, k < un τ 17 17 → mI M' (ma mb 16) k = if un τ 0 (un τ 14 k) = p then nI (ltN τ k) else mI M (ma mb 16) k) ∧ (∀ k, un τ 17 17 ≤ k → mI M' (ma mb 16) k = mI M (ma mb 16) k) ∧ (d < 720 → mI M' mb 21 = nI (leftN τ p d))) := by
  refine CT.of hfl rfl (Nat.le_of_ble_eq_true rfl) ?_
  intro pp ee ss mm ar bw mt cd C hgX hr hini
  have hnc := hw.nc.2
  have hsh := hw.sh.2
  have hnl := hw.nl.2
  have hne := hw.ne.2
  have hng := hw.ng.2
  have hop := hw.op.2
  have hnp := hw.np.2
  have ht0 := ht
  have hm0 := hm
  refine V.eLo (lo' := [(0, .ref mb), (1, .int (nI p)), (2, .int (nI d))]) rfl ?_
  refine r_iconst C (v := nI 0) dX12_takes_0 (by decide) ?_
  refine r_istore_n C (lo' := [(3, .int (nI 0)), (0, .ref mb), (1, .int (nI p)), (2, .int (nI d))]) dX12_takes_1 rfl (by decide) rfl ?_
  refine r_iconst C (v := nI 0) dX12_takes_2 (by decide) ?_
  refine r_istore C (lo' := [(4, .int (nI 0)), (3, .int (nI 0)), (0, .ref mb), (1, .int (nI p)), (2, .int (nI d))]) dX12_takes_3 (by decide) rfl ?_
  refine r_iconst C (v := nI 0) dX12_takes_5 (by decide) ?_
  refine r_istore C (lo' := [(5, .int (nI 0)), (4, .int (nI 0)), (3, .int (nI 0)), (0, .ref mb), (1, .int (nI p)), (2, .int (nI d))]) dX12_takes_6 (by decide) rfl ?_
  have lp8 : ∀ (k8 : Nat) (M1 : Mem) (e : Nat) (he : e ≤ 720) (hfo : fOut [16, 21] mb M M1) (hlt : ∀ j, j < un τ 17 17 → mI M1 (ma mb 16) j = if un τ 0 (un τ 14 j) = p ∧ un τ 15 j < e then nI (ltN τ j) else mI M (ma mb 16) j) (hlo : ∀ j, un τ 17 17 ≤ j → mI M1 (ma mb 16) j = mI M (ma mb 16) j) (hlf : d < e → mI M1 mb 21 = nI (leftN τ p d)), 721 - e < k8 → V pp l ee ({ frames := 2, cells := 0, slots := 0, locals := 50 } : Room) ss mm ar bw mt cd G (MQ bw (Ke G (fun v M' => v = none ∧ fOut [16, 21] mb M M' ∧ (∀ k, k < un τ 17 17 → mI M' (ma mb 16) k = if un τ 0 (un τ 14 k) = p then nI (ltN τ k) else mI M (ma mb 16) k) ∧ (∀ k, un τ 17 17 ≤ k → mI M' (ma mb 16) k = mI M (ma mb 16) k) ∧ (d < 720 → mI M' mb 21 = nI (leftN τ p d)))) ar ss 0 0 (gA G)) 8 M1 0 0 8 [(0, .ref mb), (1, .int (nI p)), (2, .int (nI d)), (3, .int (nI ((tk τ p e).1))), (4, .int (nI ((tk τ p e).2))), (5, .int (nI e))] [] := by
    intro k8
    induction k8 with
    | zero => intro M1 e he hfo hlt hlo hlf hz8; exact absurd hz8 (Nat.not_lt_zero _)
    | succ k8 ih8 =>
      intro M1 e he hfo hlt hlo hlf hz8
      have ht := hfo.te rfl ht0
      have hm := hfo.ok hm0
      have htb := tk_le hw p e
      have htd := tkD_le hw p e (tk τ p e)
      have hrt := hw.rt.2
      have hca := hw.ca.2
      have hte := hw.te.2
      refine r_iload C 5 dX12_takes_8 rfl ?_
      refine r_sipush C (v := nI 720) dX12_takes_10 (by decide) ?_
      refine r_icmp_geN C (t := 256) (by omega) (by omega) dX12_takes_13 (by decide) (fun c13 => ?_) (fun c13 => ?_)
      · skip
        have ee7 : e = 720 := by omega
        exact r_vret C hr (⟨rfl, hfo, fun k hk => (hlt k hk).trans (if_cg ⟨fun q => q.1, fun q => ⟨q, by have := (hw.ld k hk).1.2; omega⟩⟩), hlo, fun q => hlf (by omega)⟩) (by first | exact Nat.zero_le _ | decide) (by first | exact Nat.zero_le _ | decide) dX12_takes_256
      · skip
        refine r_iload_n C 3 dX12_takes_16 rfl rfl ?_
        have jn50 : V pp l ee ({ frames := 2, cells := 0, slots := 0, locals := 50 } : Room) ss mm ar bw mt cd G (MQ bw (Ke G (fun v M' => v = none ∧ fOut [16, 21] mb M M' ∧ (∀ k, k < un τ 17 17 → mI M' (ma mb 16) k = if un τ 0 (un τ 14 k) = p then nI (ltN τ k) else mI M (ma mb 16) k) ∧ (∀ k, un τ 17 17 ≤ k → mI M' (ma mb 16) k = mI M (ma mb 16) k) ∧ (d < 720 → mI M' mb 21 = nI (leftN τ p d)))) ar ss 0 0 (gA G)) 8 M1 0 0 50 [(0, .ref mb), (1, .int (nI p)), (2, .int (nI d)), (3, .int (nI ((tk τ p e).1))), (4, .int (nI ((tk τ p e).2))), (5, .int (nI e))] [.int (nI (if e % 30 = 0 ∧ 0 < e ∧ worksB τ p (e - 1) = true then un τ 18 18 else 0)), .int (nI ((tk τ p e).1))] := by
          skip
          refine r_iaddN C dX12_takes_50 ?_
          refine r_istore_n C (lo' := [(3, .int (nI ((tk τ p e).1 + (if e % 30 = 0 ∧ 0 < e ∧ worksB τ p (e - 1) = true then un τ 18 18 else 0)))), (0, .ref mb), (1, .int (nI p)), (2, .int (nI d)), (4, .int (nI ((tk τ p e).2))), (5, .int (nI e))]) dX12_takes_51 rfl (by decide) rfl ?_
          have jn80 : V pp l ee ({ frames := 2, cells := 0, slots := 0, locals := 50 } : Room) ss mm ar bw mt cd G (MQ bw (Ke G (fun v M' => v = none ∧ fOut [16, 21] mb M M' ∧ (∀ k, k < un τ 17 17 → mI M' (ma mb 16) k = if un τ 0 (un τ 14 k) = p then nI (ltN τ k) else mI M (ma mb 16) k) ∧ (∀ k, un τ 17 17 ≤ k → mI M' (ma mb 16) k = mI M (ma mb 16) k) ∧ (d < 720 → mI M' mb 21 = nI (leftN τ p d)))) ar ss 0 0 (gA G)) 8 M1 0 0 80 [(0, .ref mb), (1, .int (nI p)), (2, .int (nI d)), (3, .int (nI ((tkD τ p e (tk τ p e)).1))), (4, .int (nI (if e = 360 then min (tkH τ p e (tk τ p e).1) (un τ 19 19) else (tk τ p e).2))), (5, .int (nI e))] [] := by
            skip
            have jn101 : V pp l ee ({ frames := 2, cells := 0, slots := 0, locals := 50 } : Room) ss mm ar bw mt cd G (MQ bw (Ke G (fun v M' => v = none ∧ fOut [16, 21] mb M M' ∧ (∀ k, k < un τ 17 17 → mI M' (ma mb 16) k = if un τ 0 (un τ 14 k) = p then nI (ltN τ k) else mI M (ma mb 16) k) ∧ (∀ k, un τ 17 17 ≤ k → mI M' (ma mb 16) k = mI M (ma mb 16) k) ∧ (d < 720 → mI M' mb 21 = nI (leftN τ p d)))) ar ss 0 0 (gA G)) 8 M1 0 0 101 [(0, .ref mb), (1, .int (nI p)), (2, .int (nI d)), (3, .int (nI ((tkD τ p e (tk τ p e)).1))), (4, .int (nI (if e = 360 then min (tkH τ p e (tk τ p e).1) (un τ 19 19) else (tk τ p e).2))), (5, .int (nI e))] [.int (nI ((tkD τ p e (tk τ p e)).2))] := by
              skip
              refine r_istore C (lo' := [(4, .int (nI ((tkD τ p e (tk τ p e)).2))), (0, .ref mb), (1, .int (nI p)), (2, .int (nI d)), (3, .int (nI ((tkD τ p e (tk τ p e)).1))), (5, .int (nI e))]) dX12_takes_101 (by decide) rfl ?_
              refine r_aload_n C 1 dX12_takes_103 rfl rfl ?_
              have jn121 : V pp l ee ({ frames := 2, cells := 0, slots := 0, locals := 50 } : Room) ss mm ar bw mt cd G (MQ bw (Ke G (fun v M' => v = none ∧ fOut [16, 21] mb M M' ∧ (∀ k, k < un τ 17 17 → mI M' (ma mb 16) k = if un τ 0 (un τ 14 k) = p then nI (ltN τ k) else mI M (ma mb 16) k) ∧ (∀ k, un τ 17 17 ≤ k → mI M' (ma mb 16) k = mI M (ma mb 16) k) ∧ (d < 720 → mI M' mb 21 = nI (leftN τ p d)))) ar ss 0 0 (gA G)) 8 M1 0 0 121 [(4, .int (nI ((tkD τ p e (tk τ p e)).2))), (0, .ref mb), (1, .int (nI p)), (2, .int (nI d)), (3, .int (nI ((tkD τ p e (tk τ p e)).1))), (5, .int (nI e))] [.int (if e = d then nI ((tkD τ p e (tk τ p e)).1 + (tkD τ p e (tk τ p e)).2) else mI M1 mb 21), .ref mb] := by
                skip
                refine r_putI C fl_X12_302 hm.k dX12_takes_121 ?_
                refine r_iconst C (v := nI 0) dX12_takes_124 (by decide) ?_
                refine r_istore C (lo' := [(6, .int (nI 0)), (4, .int (nI ((tkD τ p e (tk τ p e)).2))), (0, .ref mb), (1, .int (nI p)), (2, .int (nI d)), (3, .int (nI ((tkD τ p e (tk τ p e)).1))), (5, .int (nI e))]) dX12_takes_125 (by decide) rfl ?_
                have lp127 : ∀ (k127 : Nat) (M2 : Mem) (k : Nat) (hk : k ≤ un τ 17 17) (hfo2 : fOut [16, 21] mb M M2) (hlt2 : ∀ j, j < un τ 17 17 → mI M2 (ma mb 16) j = if un τ 0 (un τ 14 j) = p ∧ (un τ 15 j < e ∨ un τ 15 j = e ∧ j < k) then nI (ltN τ j) else mI M (ma mb 16) j) (hlo2 : ∀ j, un τ 17 17 ≤ j → mI M2 (ma mb 16) j = mI M (ma mb 16) j) (hlf2 : d < e + 1 → mI M2 mb 21 = nI (leftN τ p d)), un τ 17 17 + 1 - k < k127 → V pp l ee ({ frames := 2, cells := 0, slots := 0, locals := 50 } : Room) ss mm ar bw mt cd G (MQ bw (Ke G (fun v M' => v = none ∧ fOut [16, 21] mb M M' ∧ (∀ k, k < un τ 17 17 → mI M' (ma mb 16) k = if un τ 0 (un τ 14 k) = p then nI (ltN τ k) else mI M (ma mb 16) k) ∧ (∀ k, un τ 17 17 ≤ k → mI M' (ma mb 16) k = mI M (ma mb 16) k) ∧ (d < 720 → mI M' mb 21 = nI (leftN τ p d)))) ar ss 0 0 (gA G)) 8 M2 0 0 127 [(0, .ref mb), (1, .int (nI p)), (2, .int (nI d)), (3, .int (nI ((ltS τ p e k).1))), (4, .int (nI ((ltS τ p e k).2))), (5, .int (nI e)), (6, .int (nI k))] [] := by
                  intro k127
                  induction k127 with
                  | zero => intro M2 k hk hfo2 hlt2 hlo2 hlf2 hz127; exact absurd hz127 (Nat.not_lt_zero _)
                  | succ k127 ih127 =>
                    intro M2 k hk hfo2 hlt2 hlo2 hlf2 hz127
                    have ht := hfo2.te rfl ht0
                    have hm := hfo2.ok hm0
                    have hKb : (ltS τ p e k).1 ≤ (tkD τ p e (tk τ p e)).1 ∧ (ltS τ p e k).2 ≤ (tkD τ p e (tk τ p e)).2 := tkK_le τ p e _ k
                    refine r_iload C 6 dX12_takes_127 rfl ?_
                    refine r_aload_n C 0 dX12_takes_129 rfl rfl ?_
                    refine r_getI C fl_X12_269 rfl hm.k dX12_takes_130 ?_
                    refine V.ei (y := nI (un τ 17 17)) ((ht.s 17 rfl).trans hw.nl.1) ?_
                    refine r_icmp_geN C (t := 250) (by omega) (by omega) dX12_takes_133 (by decide) (fun c133 => ?_) (fun c133 => ?_)
                    · skip
                      have ek : k = un τ 17 17 := by omega
                      refine r_iinc C (v := nI (e + 1)) (lo' := [(5, .int (nI (e + 1))), (0, .ref mb), (1, .int (nI p)), (2, .int (nI d)), (3, .int (nI ((ltS τ p e k).1))), (4, .int (nI ((ltS τ p e k).2))), (6, .int (nI k))]) 5 dX12_takes_250 rfl (nI_addI e 1) (by decide) rfl ?_
                      refine r_goto C (t := 8) dX12_takes_253 (by decide) ?_
                      have jb3 : ((ltS τ p e k).1) = ((tk τ p (e + 1)).1) := by subst ek; rfl
                      refine V.eLo (lo' := [(5, .int (nI (e + 1))), (0, .ref mb), (1, .int (nI p)), (2, .int (nI d)), (3, .int (nI ((tk τ p (e + 1)).1))), (4, .int (nI ((ltS τ p e k).2))), (6, .int (nI k))]) (congrArg (fun z_ => ([(5, .int (nI (e + 1))), (0, .ref mb), (1, .int (nI p)), (2, .int (nI d)), (3, .int (nI z_)), (4, .int (nI ((ltS τ p e k).2))), (6, .int (nI k))] : List (Nat × Value))) jb3) ?_
                      have jb4 : ((ltS τ p e k).2) = ((tk τ p (e + 1)).2) := by subst ek; rfl
                      refine V.eLo (lo' := [(5, .int (nI (e + 1))), (0, .ref mb), (1, .int (nI p)), (2, .int (nI d)), (3, .int (nI ((tk τ p (e + 1)).1))), (4, .int (nI ((tk τ p (e + 1)).2))), (6, .int (nI k))]) (congrArg (fun z_ => ([(5, .int (nI (e + 1))), (0, .ref mb), (1, .int (nI p)), (2, .int (nI d)), (3, .int (nI ((tk τ p (e + 1)).1))), (4, .int (nI z_)), (6, .int (nI k))] : List (Nat × Value))) jb4) ?_
                      refine V.sub [1, 2, 3, 4, 5, 0] (lo' := [(0, .ref mb), (1, .int (nI p)), (2, .int (nI d)), (3, .int (nI ((tk τ p (e + 1)).1))), (4, .int (nI ((tk τ p (e + 1)).2))), (5, .int (nI (e + 1)))]) rfl ?_
                      exact ih8 M2 (e + 1) (by omega) hfo2 (fun j hj => (hlt2 j hj).trans (if_cg ⟨fun q => ⟨q.1, by omega⟩, fun q => ⟨q.1, by omega⟩⟩)) hlo2 hlf2 (by omega)
                    · skip
                      have hlc := (hw.lc k (by omega)).2
                      refine r_aload_n C 0 dX12_takes_136 rfl rfl ?_
                      refine r_getR C (b := (ma mb 15)) fl_X12_49 rfl hm.k (hm.r 15 rfl) dX12_takes_137 ?_
                      refine r_iload C 6 dX12_takes_140 rfl ?_
                      refine r_ialoadN C (hm.i 15 20 rfl) (hm.n 15 30 rfl) (by omega) (by omega) dX12_takes_142 ?_
                      refine V.ei (y := nI (un τ 15 k)) ((ht.i 15 rfl _).trans ((hw.ld k (by omega)).1).1) ?_
                      have hb1 := ((hw.ld k (by omega)).1).2
                      refine r_iload C 5 dX12_takes_143 rfl ?_
                      refine r_icmp_neN C (t := 244) (by omega) (by omega) dX12_takes_145 (by decide) (fun c145 => ?_) (fun c145 => ?_)
                      · skip
                        have hnx : ltS τ p e (k + 1) = ltS τ p e k := if_neg (fun q => c145 q.1)
                        have hlt3 : ∀ j, j < un τ 17 17 → mI M2 (ma mb 16) j = if un τ 0 (un τ 14 j) = p ∧ (un τ 15 j < e ∨ un τ 15 j = e ∧ j < k + 1) then nI (ltN τ j) else mI M (ma mb 16) j := fun j hj => (hlt2 j hj).trans (if_cg ⟨fun q => ⟨q.1, by omega⟩, fun q => ⟨q.1, by have := q.2; by_cases z : j = k; (subst z; omega); omega⟩⟩)
                        refine r_iinc C (v := nI (k + 1)) (lo' := [(6, .int (nI (k + 1))), (0, .ref mb), (1, .int (nI p)), (2, .int (nI d)), (3, .int (nI ((ltS τ p e k).1))), (4, .int (nI ((ltS τ p e k).2))), (5, .int (nI e))]) 6 dX12_takes_244 rfl (nI_addI k 1) (by decide) rfl ?_
                        refine r_goto C (t := 127) dX12_takes_247 (by decide) ?_
                        have jb3 : ((ltS τ p e k).1) = ((ltS τ p e (k + 1)).1) := by rw [hnx]
                        refine V.eLo (lo' := [(6, .int (nI (k + 1))), (0, .ref mb), (1, .int (nI p)), (2, .int (nI d)), (3, .int (nI ((ltS τ p e (k + 1)).1))), (4, .int (nI ((ltS τ p e k).2))), (5, .int (nI e))]) (congrArg (fun z_ => ([(6, .int (nI (k + 1))), (0, .ref mb), (1, .int (nI p)), (2, .int (nI d)), (3, .int (nI z_)), (4, .int (nI ((ltS τ p e k).2))), (5, .int (nI e))] : List (Nat × Value))) jb3) ?_
                        have jb4 : ((ltS τ p e k).2) = ((ltS τ p e (k + 1)).2) := by rw [hnx]
                        refine V.eLo (lo' := [(6, .int (nI (k + 1))), (0, .ref mb), (1, .int (nI p)), (2, .int (nI d)), (3, .int (nI ((ltS τ p e (k + 1)).1))), (4, .int (nI ((ltS τ p e (k + 1)).2))), (5, .int (nI e))]) (congrArg (fun z_ => ([(6, .int (nI (k + 1))), (0, .ref mb), (1, .int (nI p)), (2, .int (nI d)), (3, .int (nI ((ltS τ p e (k + 1)).1))), (4, .int (nI z_)), (5, .int (nI e))] : List (Nat × Value))) jb4) ?_
                        refine V.sub [1, 2, 3, 4, 5, 6, 0] (lo' := [(0, .ref mb), (1, .int (nI p)), (2, .int (nI d)), (3, .int (nI ((ltS τ p e (k + 1)).1))), (4, .int (nI ((ltS τ p e (k + 1)).2))), (5, .int (nI e)), (6, .int (nI (k + 1)))]) rfl ?_
                        exact ih127 M2 (k + 1) (by omega) hfo2 hlt3 hlo2 hlf2 (by omega)
                      · skip
                        refine r_aload_n C 0 dX12_takes_148 rfl rfl ?_
                        refine r_getR C (b := (ma mb 0)) fl_X12_7 rfl hm.k (hm.r 0 rfl) dX12_takes_149 ?_
                        refine r_aload_n C 0 dX12_takes_152 rfl rfl ?_
                        refine r_getR C (b := (ma mb 14)) fl_X12_46 rfl hm.k (hm.r 14 rfl) dX12_takes_153 ?_
                        refine r_iload C 6 dX12_takes_156 rfl ?_
                        refine r_ialoadN C (hm.i 14 20 rfl) (hm.n 14 30 rfl) (by omega) (by omega) dX12_takes_158 ?_
                        refine V.ei (y := nI (un τ 14 k)) ((ht.i 14 rfl _).trans ((hw.lc k (by omega)).1).1) ?_
                        have hb2 := ((hw.lc k (by omega)).1).2
                        refine r_ialoadN C (hm.i 0 20 rfl) (hm.n 0 10 rfl) (by omega) (by omega) dX12_takes_159 ?_
                        refine V.ei (y := nI (un τ 0 (un τ 14 k))) ((ht.i 0 rfl _).trans (hw.cw (un τ 14 k) (by omega)).1) ?_
                        have hb3 := (hw.cw (un τ 14 k) (by omega)).2
                        refine r_iload_n C 1 dX12_takes_160 rfl rfl ?_
                        refine r_icmp_neN C (t := 244) (by omega) (by omega) dX12_takes_161 (by decide) (fun c161 => ?_) (fun c161 => ?_)
                        · skip
                          have hnx : ltS τ p e (k + 1) = ltS τ p e k := if_neg (fun q => c161 q.2.1)
                          have hlt3 : ∀ j, j < un τ 17 17 → mI M2 (ma mb 16) j = if un τ 0 (un τ 14 j) = p ∧ (un τ 15 j < e ∨ un τ 15 j = e ∧ j < k + 1) then nI (ltN τ j) else mI M (ma mb 16) j := fun j hj => (hlt2 j hj).trans (if_cg ⟨fun q => ⟨q.1, by omega⟩, fun q => ⟨q.1, by have := q.2; by_cases z : j = k; (subst z; exact absurd q.1 c161); omega⟩⟩)
                          refine r_iinc C (v := nI (k + 1)) (lo' := [(6, .int (nI (k + 1))), (0, .ref mb), (1, .int (nI p)), (2, .int (nI d)), (3, .int (nI ((ltS τ p e k).1))), (4, .int (nI ((ltS τ p e k).2))), (5, .int (nI e))]) 6 dX12_takes_244 rfl (nI_addI k 1) (by decide) rfl ?_
                          refine r_goto C (t := 127) dX12_takes_247 (by decide) ?_
                          have jb3 : ((ltS τ p e k).1) = ((ltS τ p e (k + 1)).1) := by rw [hnx]
                          refine V.eLo (lo' := [(6, .int (nI (k + 1))), (0, .ref mb), (1, .int (nI p)), (2, .int (nI d)), (3, .int (nI ((ltS τ p e (k + 1)).1))), (4, .int (nI ((ltS τ p e k).2))), (5, .int (nI e))]) (congrArg (fun z_ => ([(6, .int (nI (k + 1))), (0, .ref mb), (1, .int (nI p)), (2, .int (nI d)), (3, .int (nI z_)), (4, .int (nI ((ltS τ p e k).2))), (5, .int (nI e))] : List (Nat × Value))) jb3) ?_
                          have jb4 : ((ltS τ p e k).2) = ((ltS τ p e (k + 1)).2) := by rw [hnx]
                          refine V.eLo (lo' := [(6, .int (nI (k + 1))), (0, .ref mb), (1, .int (nI p)), (2, .int (nI d)), (3, .int (nI ((ltS τ p e (k + 1)).1))), (4, .int (nI ((ltS τ p e (k + 1)).2))), (5, .int (nI e))]) (congrArg (fun z_ => ([(6, .int (nI (k + 1))), (0, .ref mb), (1, .int (nI p)), (2, .int (nI d)), (3, .int (nI ((ltS τ p e (k + 1)).1))), (4, .int (nI z_)), (5, .int (nI e))] : List (Nat × Value))) jb4) ?_
                          refine V.sub [1, 2, 3, 4, 5, 6, 0] (lo' := [(0, .ref mb), (1, .int (nI p)), (2, .int (nI d)), (3, .int (nI ((ltS τ p e (k + 1)).1))), (4, .int (nI ((ltS τ p e (k + 1)).2))), (5, .int (nI e)), (6, .int (nI (k + 1)))]) rfl ?_
                          exact ih127 M2 (k + 1) (by omega) hfo2 hlt3 hlo2 hlf2 (by omega)
                        · skip
                          have hlN := ltN_le τ k
                          have elt : ltN τ k = if 10 ≤ (ltS τ p e k).1 + (ltS τ p e k).2 then 1 else 0 := by unfold ltN; rw [c161, c145]
                          have hlt3 : ∀ j, j < un τ 17 17 → mI (wI M2 (ma mb 16) k (nI (ltN τ k))) (ma mb 16) j = if un τ 0 (un τ 14 j) = p ∧ (un τ 15 j < e ∨ un τ 15 j = e ∧ j < k + 1) then nI (ltN τ j) else mI M (ma mb 16) j := by
                            intro j hj
                            by_cases z : j = k
                            · subst z; rw [if_pos ⟨c161, .inr ⟨c145, by omega⟩⟩]; exact up2_same _ _ _ _
                            · refine (up2_k _ _ z).trans ((hlt2 j hj).trans (if_cg ⟨fun q => ⟨q.1, by omega⟩, fun q => ⟨q.1, by omega⟩⟩))
                          have hnx1 : 10 ≤ (ltS τ p e k).1 + (ltS τ p e k).2 → ltS τ p e (k + 1) = ((ltS τ p e k).1 - (10 - min (ltS τ p e k).2 10), (ltS τ p e k).2 - min (ltS τ p e k).2 10) := fun q => if_pos ⟨c145, c161, q⟩
                          have hnx0 : ¬ 10 ≤ (ltS τ p e k).1 + (ltS τ p e k).2 → ltS τ p e (k + 1) = ltS τ p e k := fun q => if_neg (fun z => q z.2.2)
                          refine r_aload_n C 0 dX12_takes_164 rfl rfl ?_
                          refine r_getR C (b := (ma mb 16)) fl_X12_52 rfl hm.k (hm.r 16 rfl) dX12_takes_165 ?_
                          refine r_iload C 6 dX12_takes_168 rfl ?_
                          have jn184 : V pp l ee ({ frames := 2, cells := 0, slots := 0, locals := 50 } : Room) ss mm ar bw mt cd G (MQ bw (Ke G (fun v M' => v = none ∧ fOut [16, 21] mb M M' ∧ (∀ k, k < un τ 17 17 → mI M' (ma mb 16) k = if un τ 0 (un τ 14 k) = p then nI (ltN τ k) else mI M (ma mb 16) k) ∧ (∀ k, un τ 17 17 ≤ k → mI M' (ma mb 16) k = mI M (ma mb 16) k) ∧ (d < 720 → mI M' mb 21 = nI (leftN τ p d)))) ar ss 0 0 (gA G)) 8 M2 0 0 184 [(0, .ref mb), (1, .int (nI p)), (2, .int (nI d)), (3, .int (nI ((ltS τ p e k).1))), (4, .int (nI ((ltS τ p e k).2))), (5, .int (nI e)), (6, .int (nI k))] [.int (nI (ltN τ k)), .int (nI k), .ref (ma mb 16)] := by
                            skip
                            refine r_iastoreN C (hm.i 16 20 rfl) (hm.n 16 30 rfl) (by omega) (by omega) dX12_takes_184 ?_
                            have jn213 : V pp l ee ({ frames := 2, cells := 0, slots := 0, locals := 50 } : Room) ss mm ar bw mt cd G (MQ bw (Ke G (fun v M' => v = none ∧ fOut [16, 21] mb M M' ∧ (∀ k, k < un τ 17 17 → mI M' (ma mb 16) k = if un τ 0 (un τ 14 k) = p then nI (ltN τ k) else mI M (ma mb 16) k) ∧ (∀ k, un τ 17 17 ≤ k → mI M' (ma mb 16) k = mI M (ma mb 16) k) ∧ (d < 720 → mI M' mb 21 = nI (leftN τ p d)))) ar ss 0 0 (gA G)) 8 (wI M2 (ma mb 16) k (nI (ltN τ k))) 0 0 213 [(0, .ref mb), (1, .int (nI p)), (2, .int (nI d)), (3, .int (nI ((ltS τ p e k).1))), (4, .int (nI ((ltS τ p e k).2))), (5, .int (nI e)), (6, .int (nI k))] [.int (nI (if ltN τ k = 0 then 0 else min (ltS τ p e k).2 10))] := by
                              skip
                              have h10 : (if ltN τ k = 0 then 0 else min (ltS τ p e k).2 10) ≤ 10 := by split <;> omega
                              have h11 : (if ltN τ k = 0 then 0 else min (ltS τ p e k).2 10) ≤ (ltS τ p e k).2 := by split <;> omega
                              refine r_istore C (lo' := [(7, .int (nI (if ltN τ k = 0 then 0 else min (ltS τ p e k).2 10))), (0, .ref mb), (1, .int (nI p)), (2, .int (nI d)), (3, .int (nI ((ltS τ p e k).1))), (4, .int (nI ((ltS τ p e k).2))), (5, .int (nI e)), (6, .int (nI k))]) dX12_takes_213 (by decide) rfl ?_
                              refine r_iload C 5 dX12_takes_215 rfl ?_
                              refine r_iload C 0 dX12_takes_217 rfl ?_
                              refine r_isubN C (by omega) dX12_takes_219 ?_
                              refine r_istore C (lo' := [(4, .int (nI (((ltS τ p e k).2) - (if ltN τ k = 0 then 0 else min (ltS τ p e k).2 10)))), (7, .int (nI (if ltN τ k = 0 then 0 else min (ltS τ p e k).2 10))), (0, .ref mb), (1, .int (nI p)), (2, .int (nI d)), (3, .int (nI ((ltS τ p e k).1))), (5, .int (nI e)), (6, .int (nI k))]) dX12_takes_220 (by decide) rfl ?_
                              refine r_iload_n C 5 dX12_takes_222 rfl rfl ?_
                              have jn242 : V pp l ee ({ frames := 2, cells := 0, slots := 0, locals := 50 } : Room) ss mm ar bw mt cd G (MQ bw (Ke G (fun v M' => v = none ∧ fOut [16, 21] mb M M' ∧ (∀ k, k < un τ 17 17 → mI M' (ma mb 16) k = if un τ 0 (un τ 14 k) = p then nI (ltN τ k) else mI M (ma mb 16) k) ∧ (∀ k, un τ 17 17 ≤ k → mI M' (ma mb 16) k = mI M (ma mb 16) k) ∧ (d < 720 → mI M' mb 21 = nI (leftN τ p d)))) ar ss 0 0 (gA G)) 8 (wI M2 (ma mb 16) k (nI (ltN τ k))) 0 0 242 [(4, .int (nI (((ltS τ p e k).2) - (if ltN τ k = 0 then 0 else min (ltS τ p e k).2 10)))), (7, .int (nI (if ltN τ k = 0 then 0 else min (ltS τ p e k).2 10))), (0, .ref mb), (1, .int (nI p)), (2, .int (nI d)), (3, .int (nI ((ltS τ p e k).1))), (5, .int (nI e)), (6, .int (nI k))] [.int (nI (if ltN τ k = 0 then 0 else 10 - (if ltN τ k = 0 then 0 else min (ltS τ p e k).2 10))), .int (nI ((ltS τ p e k).1))] := by
                                skip
                                have hnx : ltS τ p e (k + 1) = ((ltS τ p e k).1 - (if ltN τ k = 0 then 0 else 10 - (if ltN τ k = 0 then 0 else min (ltS τ p e k).2 10)), (ltS τ p e k).2 - (if ltN τ k = 0 then 0 else min (ltS τ p e k).2 10)) := by
                                  by_cases z : 10 ≤ (ltS τ p e k).1 + (ltS τ p e k).2
                                  · rw [hnx1 z, elt, if_pos z]; rfl
                                  · rw [hnx0 z, elt, if_neg z]; rfl
                                have h12 : (if ltN τ k = 0 then 0 else 10 - (if ltN τ k = 0 then 0 else min (ltS τ p e k).2 10)) ≤ (ltS τ p e k).1 := by
                                  by_cases z : 10 ≤ (ltS τ p e k).1 + (ltS τ p e k).2
                                  · rw [elt, if_pos z, if_neg (by decide), if_neg (by decide)]; omega
                                  · rw [elt, if_neg z, if_pos rfl]; omega
                                refine r_isubN C (by omega) dX12_takes_242 ?_
                                refine r_istore_n C (lo' := [(3, .int (nI (((ltS τ p e k).1) - (if ltN τ k = 0 then 0 else 10 - (if ltN τ k = 0 then 0 else min (ltS τ p e k).2 10))))), (4, .int (nI (((ltS τ p e k).2) - (if ltN τ k = 0 then 0 else min (ltS τ p e k).2 10)))), (7, .int (nI (if ltN τ k = 0 then 0 else min (ltS τ p e k).2 10))), (0, .ref mb), (1, .int (nI p)), (2, .int (nI d)), (5, .int (nI e)), (6, .int (nI k))]) dX12_takes_243 rfl (by decide) rfl ?_
                                refine r_iinc C (v := nI (k + 1)) (lo' := [(6, .int (nI (k + 1))), (3, .int (nI (((ltS τ p e k).1) - (if ltN τ k = 0 then 0 else 10 - (if ltN τ k = 0 then 0 else min (ltS τ p e k).2 10))))), (4, .int (nI (((ltS τ p e k).2) - (if ltN τ k = 0 then 0 else min (ltS τ p e k).2 10)))), (7, .int (nI (if ltN τ k = 0 then 0 else min (ltS τ p e k).2 10))), (0, .ref mb), (1, .int (nI p)), (2, .int (nI d)), (5, .int (nI e))]) 7 dX12_takes_244 rfl (nI_addI k 1) (by decide) rfl ?_
                                refine r_goto C (t := 127) dX12_takes_247 (by decide) ?_
                                have jb3 : (((ltS τ p e k).1) - (if ltN τ k = 0 then 0 else 10 - (if ltN τ k = 0 then 0 else min (ltS τ p e k).2 10))) = ((ltS τ p e (k + 1)).1) := by rw [hnx]
                                refine V.eLo (lo' := [(6, .int (nI (k + 1))), (3, .int (nI ((ltS τ p e (k + 1)).1))), (4, .int (nI (((ltS τ p e k).2) - (if ltN τ k = 0 then 0 else min (ltS τ p e k).2 10)))), (7, .int (nI (if ltN τ k = 0 then 0 else min (ltS τ p e k).2 10))), (0, .ref mb), (1, .int (nI p)), (2, .int (nI d)), (5, .int (nI e))]) (congrArg (fun z_ => ([(6, .int (nI (k + 1))), (3, .int (nI z_)), (4, .int (nI (((ltS τ p e k).2) - (if ltN τ k = 0 then 0 else min (ltS τ p e k).2 10)))), (7, .int (nI (if ltN τ k = 0 then 0 else min (ltS τ p e k).2 10))), (0, .ref mb), (1, .int (nI p)), (2, .int (nI d)), (5, .int (nI e))] : List (Nat × Value))) jb3) ?_
                                have jb4 : (((ltS τ p e k).2) - (if ltN τ k = 0 then 0 else min (ltS τ p e k).2 10)) = ((ltS τ p e (k + 1)).2) := by rw [hnx]
                                refine V.eLo (lo' := [(6, .int (nI (k + 1))), (3, .int (nI ((ltS τ p e (k + 1)).1))), (4, .int (nI ((ltS τ p e (k + 1)).2))), (7, .int (nI (if ltN τ k = 0 then 0 else min (ltS τ p e k).2 10))), (0, .ref mb), (1, .int (nI p)), (2, .int (nI d)), (5, .int (nI e))]) (congrArg (fun z_ => ([(6, .int (nI (k + 1))), (3, .int (nI ((ltS τ p e (k + 1)).1))), (4, .int (nI z_)), (7, .int (nI (if ltN τ k = 0 then 0 else min (ltS τ p e k).2 10))), (0, .ref mb), (1, .int (nI p)), (2, .int (nI d)), (5, .int (nI e))] : List (Nat × Value))) jb4) ?_
                                refine V.sub [4, 5, 6, 1, 2, 7, 0] (lo' := [(0, .ref mb), (1, .int (nI p)), (2, .int (nI d)), (3, .int (nI ((ltS τ p e (k + 1)).1))), (4, .int (nI ((ltS τ p e (k + 1)).2))), (5, .int (nI e)), (6, .int (nI (k + 1)))]) rfl ?_
                                exact ih127 (wI M2 (ma mb 16) k (nI (ltN τ k))) (k + 1) (by omega) (hfo2.setI 16 _ _ rfl) hlt3 (fun j hj => (up2_k _ _ (by omega)).trans (hlo2 j hj)) (fun q => (up2_a _ _ (ma_0 rfl).symm).trans (hlf2 q)) (by omega)
                              refine r_aload_n C 2 dX12_takes_223 rfl rfl ?_
                              refine r_getR C (b := (ma mb 16)) fl_X12_52 rfl hm.k (hm.r 16 rfl) dX12_takes_224 ?_
                              refine r_iload C 7 dX12_takes_227 rfl ?_
                              refine r_ialoadN C (hm.i 16 20 rfl) (hm.n 16 30 rfl) (by omega) (by omega) dX12_takes_229 ?_
                              refine V.ei (y := nI (ltN τ k)) (up2_same _ _ _ _) ?_
                              refine r_if_neN C (t := 237) (by omega) dX12_takes_230 (by decide) (fun c230 => ?_) (fun c230 => ?_)
                              · skip
                                refine r_bipush C (v := nI 10) dX12_takes_237 (by decide) ?_
                                refine r_iload C 1 dX12_takes_239 rfl ?_
                                refine r_isubN C (by omega) dX12_takes_241 ?_
                                refine V.ei (y := nI (if ltN τ k = 0 then 0 else 10 - (if ltN τ k = 0 then 0 else min (ltS τ p e k).2 10))) (congrArg nI (by simp only [if_neg c230])) ?_
                                exact jn242
                              · skip
                                refine r_iconst C (v := nI 0) dX12_takes_233 (by decide) ?_
                                refine r_goto C (t := 242) dX12_takes_234 (by decide) ?_
                                refine V.ei (y := nI (if ltN τ k = 0 then 0 else 10 - (if ltN τ k = 0 then 0 else min (ltS τ p e k).2 10))) (congrArg nI (by rw [if_pos c230])) ?_
                                exact jn242
                            refine r_aload_n C 0 dX12_takes_185 rfl rfl ?_
                            refine r_getR C (b := (ma mb 16)) fl_X12_52 rfl hm.k (hm.r 16 rfl) dX12_takes_186 ?_
                            refine r_iload C 6 dX12_takes_189 rfl ?_
                            refine r_ialoadN C (hm.i 16 20 rfl) (hm.n 16 30 rfl) (by omega) (by omega) dX12_takes_191 ?_
                            refine V.ei (y := nI (ltN τ k)) (up2_same _ _ _ _) ?_
                            refine r_if_neN C (t := 199) (by omega) dX12_takes_192 (by decide) (fun c192 => ?_) (fun c192 => ?_)
                            · skip
                              refine r_iload C 4 dX12_takes_199 rfl ?_
                              refine r_bipush C (v := nI 10) dX12_takes_201 (by decide) ?_
                              refine r_icmp_geN C (t := 211) (by omega) (by omega) dX12_takes_203 (by decide) (fun c203 => ?_) (fun c203 => ?_)
                              · skip
                                refine r_bipush C (v := nI 10) dX12_takes_211 (by decide) ?_
                                refine V.ei (y := nI (if ltN τ k = 0 then 0 else min (ltS τ p e k).2 10)) (congrArg nI (by rw [if_neg (by omega)]; omega)) ?_
                                exact jn213
                              · skip
                                refine r_iload C 4 dX12_takes_206 rfl ?_
                                refine r_goto C (t := 213) dX12_takes_208 (by decide) ?_
                                refine V.ei (y := nI (if ltN τ k = 0 then 0 else min (ltS τ p e k).2 10)) (congrArg nI (by rw [if_neg (by omega)]; omega)) ?_
                                exact jn213
                            · skip
                              refine r_iconst C (v := nI 0) dX12_takes_195 (by decide) ?_
                              refine r_goto C (t := 213) dX12_takes_196 (by decide) ?_
                              refine V.ei (y := nI (if ltN τ k = 0 then 0 else min (ltS τ p e k).2 10)) (congrArg nI (by rw [if_pos (by omega)])) ?_
                              exact jn213
                          refine r_iload_n C 3 dX12_takes_170 rfl rfl ?_
                          refine r_iload C 4 dX12_takes_171 rfl ?_
                          refine r_iaddN C dX12_takes_173 ?_
                          refine r_bipush C (v := nI 10) dX12_takes_174 (by decide) ?_
                          refine r_icmp_ltN C (t := 183) (by omega) (by omega) dX12_takes_176 (by decide) (fun c176 => ?_) (fun c176 => ?_)
                          · skip
                            refine r_iconst C (v := nI 0) dX12_takes_183 (by decide) ?_
                            refine V.ei (y := nI (ltN τ k)) (congrArg nI (by rw [elt, if_neg (by omega)])) ?_
                            exact jn184
                          · skip
                            refine r_iconst C (v := nI 1) dX12_takes_179 (by decide) ?_
                            refine r_goto C (t := 184) dX12_takes_180 (by decide) ?_
                            refine V.ei (y := nI (ltN τ k)) (congrArg nI (by rw [elt, if_pos (by omega)])) ?_
                            exact jn184
                refine V.sub [2, 3, 4, 5, 1, 6, 0] (lo' := [(0, .ref mb), (1, .int (nI p)), (2, .int (nI d)), (3, .int (nI ((tkD τ p e (tk τ p e)).1))), (4, .int (nI ((tkD τ p e (tk τ p e)).2))), (5, .int (nI e)), (6, .int (nI 0))]) rfl ?_
                exact lp127 _ (wI M1 mb 21 (if e = d then nI ((tkD τ p e (tk τ p e)).1 + (tkD τ p e (tk τ p e)).2) else mI M1 mb 21)) 0 (Nat.zero_le _) (hfo.set0 21 _ rfl) (fun j hj => by rw [show mI (wI M1 mb 21 _) (ma mb 16) j = mI M1 (ma mb 16) j from up2_a _ _ (ma_0 rfl), hlt j hj]; exact if_cg ⟨fun q => ⟨q.1, .inl q.2⟩, fun q => ⟨q.1, by omega⟩⟩) (fun j hj => by rw [show mI (wI M1 mb 21 _) (ma mb 16) j = mI M1 (ma mb 16) j from up2_a _ _ (ma_0 rfl)]; exact hlo j hj) (fun q => by rw [show mI (wI M1 mb 21 _) mb 21 = _ from up2_same _ _ _ _]; split; (next z => rw [← z]; rfl); (next z => exact hlf (by omega))) (Nat.lt_succ_self _)
              refine r_iload C 5 dX12_takes_104 rfl ?_
              refine r_iload_n C 3 dX12_takes_106 rfl rfl ?_
              refine r_icmp_neN C (t := 117) (by omega) (by omega) dX12_takes_107 (by decide) (fun c107 => ?_) (fun c107 => ?_)
              · skip
                refine r_aload_n C 1 dX12_takes_117 rfl rfl ?_
                refine r_getI C fl_X12_302 rfl hm.k dX12_takes_118 ?_
                refine V.ei (y := if e = d then nI ((tkD τ p e (tk τ p e)).1 + (tkD τ p e (tk τ p e)).2) else mI M1 mb 21) (by rw [if_neg c107]) ?_
                exact jn121
              · skip
                refine r_iload_n C 4 dX12_takes_110 rfl rfl ?_
                refine r_iload C 0 dX12_takes_111 rfl ?_
                refine r_iaddN C dX12_takes_113 ?_
                refine r_goto C (t := 121) dX12_takes_114 (by decide) ?_
                refine V.ei (y := if e = d then nI ((tkD τ p e (tk τ p e)).1 + (tkD τ p e (tk τ p e)).2) else mI M1 mb 21) (by rw [if_pos c107]) ?_
                exact jn121
            refine r_iload C 5 dX12_takes_80 rfl ?_
            refine r_bipush C (v := nI 30) dX12_takes_82 (by decide) ?_
            refine r_bipush C (v := nI 12) dX12_takes_84 (by decide) ?_
            refine r_aload_n C 0 dX12_takes_86 rfl rfl ?_
            refine r_getI C fl_X12_296 rfl hm.k dX12_takes_87 ?_
            refine V.ei (y := nI (un τ 20 20)) ((ht.s 20 rfl).trans hw.te.1) ?_
            refine r_iaddN C dX12_takes_90 ?_
            refine r_imulN C dX12_takes_91 ?_
            refine r_icmp_neN C (t := 99) (by omega) (by omega) dX12_takes_92 (by decide) (fun c92 => ?_) (fun c92 => ?_)
            · skip
              refine r_iload C 4 dX12_takes_99 rfl ?_
              refine V.ei (y := nI ((tkD τ p e (tk τ p e)).2)) (congrArg nI (by show _ = if e = 30 * (12 + un τ 20 20) then 0 else if e = 360 then min (tkH τ p e (tk τ p e).1) (un τ 19 19) else (tk τ p e).2; rw [if_neg c92])) ?_
              exact jn101
            · skip
              refine r_iconst C (v := nI 0) dX12_takes_95 (by decide) ?_
              refine r_goto C (t := 101) dX12_takes_96 (by decide) ?_
              refine V.ei (y := nI ((tkD τ p e (tk τ p e)).2)) (congrArg nI (by show _ = if e = 30 * (12 + un τ 20 20) then 0 else if e = 360 then min (tkH τ p e (tk τ p e).1) (un τ 19 19) else (tk τ p e).2; rw [if_pos c92])) ?_
              exact jn101
          have hst : (if e % 30 = 0 ∧ 0 < e ∧ worksB τ p (e - 1) = true then un τ 18 18 else 0) ≤ 50 := by split <;> omega
          refine r_iload C 5 dX12_takes_52 rfl ?_
          refine r_sipush C (v := nI 360) dX12_takes_54 (by decide) ?_
          refine r_icmp_neN C (t := 80) (by omega) (by omega) dX12_takes_57 (by decide) (fun c57 => ?_) (fun c57 => ?_)
          · skip
            refine V.sub [1, 2, 3, 0, 4, 5] (lo' := [(0, .ref mb), (1, .int (nI p)), (2, .int (nI d)), (3, .int (nI ((tk τ p e).1 + (if e % 30 = 0 ∧ 0 < e ∧ worksB τ p (e - 1) = true then un τ 18 18 else 0)))), (4, .int (nI ((tk τ p e).2))), (5, .int (nI e))]) rfl ?_
            have jl3 : ((tk τ p e).1 + (if e % 30 = 0 ∧ 0 < e ∧ worksB τ p (e - 1) = true then un τ 18 18 else 0)) = ((tkD τ p e (tk τ p e)).1) := by show _ = if e = 360 then 0 else tkH τ p e (tk τ p e).1; rw [if_neg c57]; rfl
            refine V.eLo (lo' := [(0, .ref mb), (1, .int (nI p)), (2, .int (nI d)), (3, .int (nI ((tkD τ p e (tk τ p e)).1))), (4, .int (nI ((tk τ p e).2))), (5, .int (nI e))]) (congrArg (fun z_ => ([(0, .ref mb), (1, .int (nI p)), (2, .int (nI d)), (3, .int (nI z_)), (4, .int (nI ((tk τ p e).2))), (5, .int (nI e))] : List (Nat × Value))) jl3) ?_
            have jl4 : ((tk τ p e).2) = (if e = 360 then min (tkH τ p e (tk τ p e).1) (un τ 19 19) else (tk τ p e).2) := by rw [if_neg c57]
            refine V.eLo (lo' := [(0, .ref mb), (1, .int (nI p)), (2, .int (nI d)), (3, .int (nI ((tkD τ p e (tk τ p e)).1))), (4, .int (nI (if e = 360 then min (tkH τ p e (tk τ p e).1) (un τ 19 19) else (tk τ p e).2))), (5, .int (nI e))]) (congrArg (fun z_ => ([(0, .ref mb), (1, .int (nI p)), (2, .int (nI d)), (3, .int (nI ((tkD τ p e (tk τ p e)).1))), (4, .int (nI z_)), (5, .int (nI e))] : List (Nat × Value))) jl4) ?_
            exact jn80
          · skip
            have jn76 : V pp l ee ({ frames := 2, cells := 0, slots := 0, locals := 50 } : Room) ss mm ar bw mt cd G (MQ bw (Ke G (fun v M' => v = none ∧ fOut [16, 21] mb M M' ∧ (∀ k, k < un τ 17 17 → mI M' (ma mb 16) k = if un τ 0 (un τ 14 k) = p then nI (ltN τ k) else mI M (ma mb 16) k) ∧ (∀ k, un τ 17 17 ≤ k → mI M' (ma mb 16) k = mI M (ma mb 16) k) ∧ (d < 720 → mI M' mb 21 = nI (leftN τ p d)))) ar ss 0 0 (gA G)) 8 M1 0 0 76 [(3, .int (nI ((tk τ p e).1 + (if e % 30 = 0 ∧ 0 < e ∧ worksB τ p (e - 1) = true then un τ 18 18 else 0)))), (0, .ref mb), (1, .int (nI p)), (2, .int (nI d)), (4, .int (nI ((tk τ p e).2))), (5, .int (nI e))] [.int (nI (min (tkH τ p e (tk τ p e).1) (un τ 19 19)))] := by
              skip
              refine r_istore C (lo' := [(4, .int (nI (min (tkH τ p e (tk τ p e).1) (un τ 19 19)))), (3, .int (nI ((tk τ p e).1 + (if e % 30 = 0 ∧ 0 < e ∧ worksB τ p (e - 1) = true then un τ 18 18 else 0)))), (0, .ref mb), (1, .int (nI p)), (2, .int (nI d)), (5, .int (nI e))]) dX12_takes_76 (by decide) rfl ?_
              refine r_iconst C (v := nI 0) dX12_takes_78 (by decide) ?_
              refine r_istore_n C (lo' := [(3, .int (nI 0)), (4, .int (nI (min (tkH τ p e (tk τ p e).1) (un τ 19 19)))), (0, .ref mb), (1, .int (nI p)), (2, .int (nI d)), (5, .int (nI e))]) dX12_takes_79 rfl (by decide) rfl ?_
              refine V.sub [2, 3, 4, 0, 1, 5] (lo' := [(0, .ref mb), (1, .int (nI p)), (2, .int (nI d)), (3, .int (nI 0)), (4, .int (nI (min (tkH τ p e (tk τ p e).1) (un τ 19 19)))), (5, .int (nI e))]) rfl ?_
              have jl3 : (0) = ((tkD τ p e (tk τ p e)).1) := by show _ = if e = 360 then 0 else tkH τ p e (tk τ p e).1; rw [if_pos c57]
              refine V.eLo (lo' := [(0, .ref mb), (1, .int (nI p)), (2, .int (nI d)), (3, .int (nI ((tkD τ p e (tk τ p e)).1))), (4, .int (nI (min (tkH τ p e (tk τ p e).1) (un τ 19 19)))), (5, .int (nI e))]) (congrArg (fun z_ => ([(0, .ref mb), (1, .int (nI p)), (2, .int (nI d)), (3, .int (nI z_)), (4, .int (nI (min (tkH τ p e (tk τ p e).1) (un τ 19 19)))), (5, .int (nI e))] : List (Nat × Value))) jl3) ?_
              have jl4 : (min (tkH τ p e (tk τ p e).1) (un τ 19 19)) = (if e = 360 then min (tkH τ p e (tk τ p e).1) (un τ 19 19) else (tk τ p e).2) := by rw [if_pos c57]
              refine V.eLo (lo' := [(0, .ref mb), (1, .int (nI p)), (2, .int (nI d)), (3, .int (nI ((tkD τ p e (tk τ p e)).1))), (4, .int (nI (if e = 360 then min (tkH τ p e (tk τ p e).1) (un τ 19 19) else (tk τ p e).2))), (5, .int (nI e))]) (congrArg (fun z_ => ([(0, .ref mb), (1, .int (nI p)), (2, .int (nI d)), (3, .int (nI ((tkD τ p e (tk τ p e)).1))), (4, .int (nI z_)), (5, .int (nI e))] : List (Nat × Value))) jl4) ?_
              exact jn80
            refine r_iload_n C 0 dX12_takes_60 rfl rfl ?_
            refine r_aload_n C 1 dX12_takes_61 rfl rfl ?_
            refine r_getI C fl_X12_293 rfl hm.k dX12_takes_62 ?_
            refine V.ei (y := nI (un τ 19 19)) ((ht.s 19 rfl).trans hw.ca.1) ?_
            refine r_icmp_geN C (t := 72) (by omega) (by omega) dX12_takes_65 (by decide) (fun c65 => ?_) (fun c65 => ?_)
            · skip
              refine r_aload_n C 1 dX12_takes_72 rfl rfl ?_
              refine r_getI C fl_X12_293 rfl hm.k dX12_takes_73 ?_
              refine V.ei (y := nI (un τ 19 19)) ((ht.s 19 rfl).trans hw.ca.1) ?_
              refine V.ei (y := nI (min (tkH τ p e (tk τ p e).1) (un τ 19 19))) (congrArg nI (by unfold tkH; omega)) ?_
              exact jn76
            · skip
              refine r_iload_n C 0 dX12_takes_68 rfl rfl ?_
              refine r_goto C (t := 76) dX12_takes_69 (by decide) ?_
              refine V.ei (y := nI (min (tkH τ p e (tk τ p e).1) (un τ 19 19))) (congrArg nI (by unfold tkH; omega)) ?_
              exact jn76
        refine r_iload C 5 dX12_takes_17 rfl ?_
        refine r_bipush C (v := nI 30) dX12_takes_19 (by decide) ?_
        refine r_iremN C (by omega) (by omega) (by omega) dX12_takes_21 ?_
        refine r_if_neN C (t := 49) (by omega) dX12_takes_22 (by decide) (fun c22 => ?_) (fun c22 => ?_)
        · skip
          refine r_iconst C (v := nI 0) dX12_takes_49 (by decide) ?_
          refine V.ei (y := nI (if e % 30 = 0 ∧ 0 < e ∧ worksB τ p (e - 1) = true then un τ 18 18 else 0)) (congrArg nI (by rw [if_neg]; intro q; exact c22 q.1)) ?_
          exact jn50
        · skip
          refine r_iload C 5 dX12_takes_25 rfl ?_
          refine r_if_leN C (t := 49) (by omega) dX12_takes_27 (by decide) (fun c27 => ?_) (fun c27 => ?_)
          · skip
            refine r_iconst C (v := nI 0) dX12_takes_49 (by decide) ?_
            refine V.ei (y := nI (if e % 30 = 0 ∧ 0 < e ∧ worksB τ p (e - 1) = true then un τ 18 18 else 0)) (congrArg nI (by rw [if_neg]; intro q; omega)) ?_
            exact jn50
          · skip
            refine r_aload_n C 0 dX12_takes_30 rfl rfl ?_
            refine r_iload_n C 1 dX12_takes_31 rfl rfl ?_
            refine r_iload C 5 dX12_takes_32 rfl ?_
            refine r_iconst C (v := nI 1) dX12_takes_34 (by decide) ?_
            refine r_isubN C (by omega) dX12_takes_35 ?_
            refine r_callV C hgX (ci := 14) ml_X12_299 im_X12_works se_X12_works rfl rfl hm.k (c_X12_works l hfl G M1 mb τ hm ht hw p (e - 1) (by omega) (by omega)) rfl (Nat.le_of_ble_eq_true rfl) ⟨Nat.le_of_ble_eq_true rfl, Nat.le_of_ble_eq_true rfl⟩ ⟨Nat.le_of_ble_eq_true rfl, Nat.le_of_ble_eq_true rfl⟩ dX12_takes_36 rfl ?_
            rintro _ _ ⟨rfl, rfl⟩
            refine V.eSt (st' := [.int (bI (worksB τ p (e - 1))), .int (nI ((tk τ p e).1))]) rfl ?_
            refine r_if_eqB C (t := 49) dX12_takes_39 (by decide) (fun c39 => ?_) (fun c39 => ?_)
            · skip
              refine r_iconst C (v := nI 0) dX12_takes_49 (by decide) ?_
              refine V.ei (y := nI (if e % 30 = 0 ∧ 0 < e ∧ worksB τ p (e - 1) = true then un τ 18 18 else 0)) (congrArg nI (by rw [if_neg]; intro q; rw [c39] at q; cases q.2.2)) ?_
              exact jn50
            · skip
              refine r_aload_n C 0 dX12_takes_42 rfl rfl ?_
              refine r_getI C fl_X12_290 rfl hm.k dX12_takes_43 ?_
              refine V.ei (y := nI (un τ 18 18)) ((ht.s 18 rfl).trans hw.rt.1) ?_
              refine r_goto C (t := 50) dX12_takes_46 (by decide) ?_
              refine V.ei (y := nI (if e % 30 = 0 ∧ 0 < e ∧ worksB τ p (e - 1) = true then un τ 18 18 else 0)) (congrArg nI (by rw [if_pos]; exact ⟨by omega, by omega, c39⟩)) ?_
              exact jn50
  refine V.sub [3, 4, 5, 2, 1, 0] (lo' := [(0, .ref mb), (1, .int (nI p)), (2, .int (nI d)), (3, .int (nI 0)), (4, .int (nI 0)), (5, .int (nI 0))]) rfl ?_
  exact lp8 _ M 0 (Nat.zero_le _) (fOut.rf _ _ _) (fun j _ => (if_neg (fun q => absurd q.2 (Nat.not_lt_zero _))).symm) (fun _ _ => rfl) (fun q => absurd q (Nat.not_lt_zero _)) (Nat.lt_succ_self _)
