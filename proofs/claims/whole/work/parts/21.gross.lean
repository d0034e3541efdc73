/-! THE REFERENCE: the gross of a month -/
def boL (τ : Mu) (p m i : Nat) : Int64 := (τ.1 30 (72 * p + 3 * m + i)).toInt64
def bsN (τ : Mu) (p m n : Nat) : Nat := sumN (fun c => if un τ 0 c = p then baseN τ (ltN τ) c m else 0) 0 n
def hrC (τ : Mu) (c m n : Nat) : Nat := sumN (fun d => un τ 8 (720 * c + d)) (30 * m) n
def hrN (τ : Mu) (p m n : Nat) : Nat := sumN (fun c => if un τ 0 c = p then hrC τ c m 30 else 0) 0 n
def gbN (τ : Mu) (p m i n : Nat) : Nat := sumN (fun c => if un τ 0 c = p ∧ un τ 1 c = i then baseN τ (ltN τ) c m else 0) 0 n
/-- what the elements come to behind k of the order -/
def cmL (τ : Mu) (p m : Nat) : Nat → Nat → Int64
  | 0 => fun _ => lN 0
  | k + 1 => vp_updL (cmL τ p m k) (un τ 27 k) (if (un τ 25 (un τ 27 k)).testBit p = true then formL τ (cmL τ p m k) (lN (bsN τ p m (un τ 9 9))) (lN (hrN τ p m (un τ 9 9) / 60)) (un τ 27 k) else lN 0)
def gE (τ : Mu) (p m : Nat) : Nat → Int64
  | 0 => 0
  | k + 1 => gE τ p m k + cmL τ p m (k + 1) (un τ 27 k)
def grL (τ : Mu) (p m i : Nat) : Int64 := boL τ p m i + lN (gbN τ p m i (un τ 9 9)) + (if i = homeN τ p m then gE τ p m (un τ 26 26) else 0)
def elL (τ : Mu) (p m e : Nat) : Int64 := cmL τ p m (un τ 26 26) e
theorem hrC_le {τ : Mu} (hw : WF τ) {c m n : Nat} (hc : c < 10) (hn : 30 * m + n ≤ 720) : hrC τ c m n ≤ n * 57600 := sumN_le fun i hi => mins_le hw (by omega)
theorem hrN_le {τ : Mu} (hw : WF τ) {p m n : Nat} (hm : m < 24) (hn : n ≤ un τ 9 9) : hrN τ p m n ≤ n * 1728000 := sumN_le fun i hi => by
  have h9 := hw.nc.2
  show (if un τ 0 (0 + i) = p then hrC τ (0 + i) m 30 else 0) ≤ _
  split
  · exact hrC_le hw (n := 30) (by omega) (by omega)
  · omega
theorem leaveP_cg {τ : Mu} {lt lt' : Nat → Nat} {c m k : Nat} (h : un τ 14 k = c → lt k = lt' k) : leaveP τ lt c m k = leaveP τ lt' c m k := by
  unfold leaveP
  exact if_cg ⟨fun q => ⟨q.1, (h q.1) ▸ q.2.1, q.2.2⟩, fun q => ⟨q.1, (h q.1).symm ▸ q.2.1, q.2.2⟩⟩
theorem baseN_cg {τ : Mu} {lt lt' : Nat → Nat} {c m : Nat} (h : ∀ k, k < un τ 17 17 → un τ 14 k = c → lt k = lt' k) : baseN τ lt c m = baseN τ lt' c m := by
  unfold baseN
  rw [sumN_congr (f := leaveP τ lt c m) (g := leaveP τ lt' c m) (fun i hi => leaveP_cg (fun q => h (0 + i) (by omega) q))]
theorem fmP_cg {τ : Mu} (hne : un τ 26 26 ≤ 6) {cm cm' : Nat → Int64} (h : ∀ i, i < 6 → cm i = cm' i) (b hh : Int64) (e : Nat) : ∀ k, fmP τ cm b hh e k = fmP τ cm' b hh e k
  | 0 => rfl
  | k + 1 => by
    have hs : singL τ cm b hh (10 * e + k) = singL τ cm' b hh (10 * e + k) := by
      unfold singL
      by_cases z : un τ 23 (10 * e + k) < un τ 26 26
      · rw [h _ (by omega)]
      · rw [if_neg z, if_neg z]
    unfold fmP
    rw [fmP_cg hne h b hh e k, hs]
theorem formL_cg {τ : Mu} (hne : un τ 26 26 ≤ 6) {cm cm' : Nat → Int64} (h : ∀ i, i < 6 → cm i = cm' i) (b hh : Int64) (e : Nat) : formL τ cm b hh e = formL τ cm' b hh e := by
  unfold formL; rw [fmP_cg hne h b hh e]
theorem sumN_1 (f : Nat → Nat) (n : Nat) : sumN f 0 (n + 1) = sumN f 0 n + f n := by show _ + f (0 + n) = _; rw [Nat.zero_add]

set_option maxHeartbeats 4000000 in
set_option maxRecDepth 100000 in
theorem c_X12_grossOf (l : Launch) (hfl : l.flags = flags0) (G : gW) (M : Mem) (mb : Nat) (τ : Mu) (hm : MOK (mK M) (mN M) (mR M) mb) (ht : TE (mI M) (mL M) mb τ) (hw : WF τ) (p m : Nat) (hp : p < 6) (hmn : m < 24) (lt : Nat → Nat) (hlt : ∀ k, k < un τ 17 17 → mI M (ma mb 16) k = nI (lt k) ∧ lt k ≤ 1) (hlp : ∀ k, k < un τ 17 17 → un τ 0 (un τ 14 k) = p → lt k = ltN τ k) : CT l yX12_grossOf cX12_grossOf 11 none 4 0 0 104 G M [.ref mb, .int (nI p), .int (nI m)] (fun v M' => v = none ∧ fOut [28, 29, 55, 65] mb M M' ∧ (∀ i, i < 3 → mL M' (ma mb 55) (3 * m + i) = grL τ p m i) ∧ (∀ i, i < 3 * m ∨ 3 * m + 3 ≤ i → mL M' (ma mb 55) i = mL M (ma mb 55) i) ∧ (∀ e, e < 6 → mL M' (ma mb 65) (24 * e + m) = elL τ p m e) ∧ ∀ i, i % 24 ≠ m → mL M' (ma mb 65) i = mL M (ma mb 65) i) := by
  refine CT.of hfl rfl (Nat.le_of_ble_eq_true rfl) ?_
  intro pp ee ss mm ar bw mt cd C hgX hr hini
  have hnc := hw.nc.2
  have hsh := hw.sh.2
  have hnl := hw.nl.2
  have hne := hw.ne.2
  have hng := hw.ng.2
  have hop := hw.op.2
  have hnp := hw.np.2
  have ht0 := ht
  have hm0 := hm
  refine V.eLo (lo' := [(0, .ref mb), (1, .int (nI p)), (2, .int (nI m))]) rfl ?_
  refine r_lconst C (v := lN 0) dX12_grossOf_0 (by decide) ?_
  refine r_lstore_n C (lo' := [(3, .long (lN 0)), (0, .ref mb), (1, .int (nI p)), (2, .int (nI m))]) dX12_grossOf_1 rfl (by decide) rfl ?_
  refine r_lconst C (v := lN 0) dX12_grossOf_2 (by decide) ?_
  refine r_lstore C (lo' := [(5, .long (lN 0)), (3, .long (lN 0)), (0, .ref mb), (1, .int (nI p)), (2, .int (nI m))]) dX12_grossOf_3 (by decide) rfl ?_
  refine r_iconst C (v := nI 0) dX12_grossOf_5 (by decide) ?_
  refine r_istore C (lo' := [(7, .int (nI 0)), (5, .long (lN 0)), (3, .long (lN 0)), (0, .ref mb), (1, .int (nI p)), (2, .int (nI m))]) dX12_grossOf_6 (by decide) rfl ?_
  have lp8 : ∀ (k8 : Nat) (M1 : Mem) (q : Nat) (hq : q ≤ 3) (hfo : fOut [28, 29, 55] mb M M1) (hgr : ∀ i, i < q → mL M1 (ma mb 55) (3 * m + i) = boL τ p m i) (hfr : ∀ i, i < 3 * m ∨ 3 * m + 3 ≤ i → mL M1 (ma mb 55) i = mL M (ma mb 55) i), 4 - q < k8 → V pp l ee ({ frames := 4, cells := 0, slots := 0, locals := 104 } : Room) ss mm ar bw mt cd G (MQ bw (Ke G (fun v M' => v = none ∧ fOut [28, 29, 55, 65] mb M M' ∧ (∀ i, i < 3 → mL M' (ma mb 55) (3 * m + i) = grL τ p m i) ∧ (∀ i, i < 3 * m ∨ 3 * m + 3 ≤ i → mL M' (ma mb 55) i = mL M (ma mb 55) i) ∧ (∀ e, e < 6 → mL M' (ma mb 65) (24 * e + m) = elL τ p m e) ∧ ∀ i, i % 24 ≠ m → mL M' (ma mb 65) i = mL M (ma mb 65) i)) ar ss 0 0 (gA G)) 11 M1 0 0 8 [(0, .ref mb), (1, .int (nI p)), (2, .int (nI m)), (3, .long (lN 0)), (5, .long (lN 0)), (7, .int (nI q))] [] := by
    intro k8
    induction k8 with
    | zero => intro M1 q hq hfo hgr hfr hz8; exact absurd hz8 (Nat.not_lt_zero _)
    | succ k8 ih8 =>
      intro M1 q hq hfo hgr hfr hz8
      have ht := hfo.te rfl ht0
      have hm := hfo.ok hm0
      refine r_iload C 5 dX12_grossOf_8 rfl ?_
      refine r_iconst C (v := nI 3) dX12_grossOf_10 (by decide) ?_
      refine r_icmp_geN C (t := 48) (by omega) (by omega) dX12_grossOf_11 (by decide) (fun c11 => ?_) (fun c11 => ?_)
      · skip
        have eq3 : q = 3 := by omega
        subst eq3
        refine r_iconst C (v := nI 0) dX12_grossOf_48 (by decide) ?_
        refine r_istore C (lo' := [(7, .int (nI 0)), (0, .ref mb), (1, .int (nI p)), (2, .int (nI m)), (3, .long (lN 0)), (5, .long (lN 0))]) dX12_grossOf_49 (by decide) rfl ?_
        have lp51 : ∀ (k51 : Nat) (M1 : Mem) (c : Nat) (hc : c ≤ un τ 9 9) (hfo : fOut [28, 29, 55] mb M M1) (hgr : ∀ i, i < 3 → mL M1 (ma mb 55) (3 * m + i) = boL τ p m i + lN (gbN τ p m i c)) (hfr : ∀ i, i < 3 * m ∨ 3 * m + 3 ≤ i → mL M1 (ma mb 55) i = mL M (ma mb 55) i), un τ 9 9 + 1 - c < k51 → V pp l ee ({ frames := 4, cells := 0, slots := 0, locals := 104 } : Room) ss mm ar bw mt cd G (MQ bw (Ke G (fun v M' => v = none ∧ fOut [28, 29, 55, 65] mb M M' ∧ (∀ i, i < 3 → mL M' (ma mb 55) (3 * m + i) = grL τ p m i) ∧ (∀ i, i < 3 * m ∨ 3 * m + 3 ≤ i → mL M' (ma mb 55) i = mL M (ma mb 55) i) ∧ (∀ e, e < 6 → mL M' (ma mb 65) (24 * e + m) = elL τ p m e) ∧ ∀ i, i % 24 ≠ m → mL M' (ma mb 65) i = mL M (ma mb 65) i)) ar ss 0 0 (gA G)) 11 M1 0 0 51 [(0, .ref mb), (1, .int (nI p)), (2, .int (nI m)), (3, .long (lN (bsN τ p m c))), (5, .long (lN (hrN τ p m c))), (7, .int (nI c))] [] := by
          intro k51
          induction k51 with
          | zero => intro M1 c hc hfo hgr hfr hz51; exact absurd hz51 (Nat.not_lt_zero _)
          | succ k51 ih51 =>
            intro M1 c hc hfo hgr hfr hz51
            have ht := hfo.te rfl ht0
            have hm := hfo.ok hm0
            have hlt1 : ∀ k, k < un τ 17 17 → mI M1 (ma mb 16) k = nI (lt k) ∧ lt k ≤ 1 := fun k hk => by rw [hfo.i 16 rfl]; exact hlt k hk
            refine r_iload C 5 dX12_grossOf_51 rfl ?_
            refine r_aload_n C 0 dX12_grossOf_53 rfl rfl ?_
            refine r_getI C fl_X12_201 rfl hm.k dX12_grossOf_54 ?_
            refine V.ei (y := nI (un τ 9 9)) ((ht.s 9 rfl).trans hw.nc.1) ?_
            refine r_icmp_geN C (t := 156) (by omega) (by omega) dX12_grossOf_57 (by decide) (fun c57 => ?_) (fun c57 => ?_)
            · skip
              have ec : c = un τ 9 9 := by omega
              subst ec
              refine r_iconst C (v := nI 0) dX12_grossOf_156 (by decide) ?_
              refine r_istore C (lo' := [(7, .int (nI 0)), (0, .ref mb), (1, .int (nI p)), (2, .int (nI m)), (3, .long (lN (bsN τ p m (un τ 9 9)))), (5, .long (lN (hrN τ p m (un τ 9 9))))]) dX12_grossOf_157 (by decide) rfl ?_
              have lp159 : ∀ (k159 : Nat) (M3 : Mem) (q : Nat) (hq : q ≤ 6) (hfo3 : fOut [29] mb M1 M3) (hcz : ∀ i, i < q → mL M3 (ma mb 29) i = lN 0), 7 - q < k159 → V pp l ee ({ frames := 4, cells := 0, slots := 0, locals := 104 } : Room) ss mm ar bw mt cd G (MQ bw (Ke G (fun v M' => v = none ∧ fOut [28, 29, 55, 65] mb M M' ∧ (∀ i, i < 3 → mL M' (ma mb 55) (3 * m + i) = grL τ p m i) ∧ (∀ i, i < 3 * m ∨ 3 * m + 3 ≤ i → mL M' (ma mb 55) i = mL M (ma mb 55) i) ∧ (∀ e, e < 6 → mL M' (ma mb 65) (24 * e + m) = elL τ p m e) ∧ ∀ i, i % 24 ≠ m → mL M' (ma mb 65) i = mL M (ma mb 65) i)) ar ss 0 0 (gA G)) 11 M3 0 0 159 [(0, .ref mb), (1, .int (nI p)), (2, .int (nI m)), (3, .long (lN (bsN τ p m (un τ 9 9)))), (5, .long (lN (hrN τ p m (un τ 9 9)))), (7, .int (nI q))] [] := by
                intro k159
                induction k159 with
                | zero => intro M3 q hq hfo3 hcz hz159; exact absurd hz159 (Nat.not_lt_zero _)
                | succ k159 ih159 =>
                  intro M3 q hq hfo3 hcz hz159
                  have hm := hfo3.ok hm
                  refine r_iload C 5 dX12_grossOf_159 rfl ?_
                  refine r_bipush C (v := nI 6) dX12_grossOf_161 (by decide) ?_
                  refine r_icmp_geN C (t := 180) (by omega) (by omega) dX12_grossOf_163 (by decide) (fun c163 => ?_) (fun c163 => ?_)
                  · skip
                    have eq3 : q = 6 := by omega
                    subst eq3
                    refine r_iconst C (v := nI 0) dX12_grossOf_180 (by decide) ?_
                    refine r_istore C (lo' := [(7, .int (nI 0)), (0, .ref mb), (1, .int (nI p)), (2, .int (nI m)), (3, .long (lN (bsN τ p m (un τ 9 9)))), (5, .long (lN (hrN τ p m (un τ 9 9))))]) dX12_grossOf_181 (by decide) rfl ?_
                    have lp183 : ∀ (k183 : Nat) (M4 : Mem) (k : Nat) (hk : k ≤ un τ 26 26) (hfo : fOut [28, 29, 55] mb M M4) (hgr : ∀ i, i < 3 → mL M4 (ma mb 55) (3 * m + i) = boL τ p m i + lN (gbN τ p m i (un τ 9 9)) + (if i = homeN τ p m then gE τ p m k else 0)) (hfr : ∀ i, i < 3 * m ∨ 3 * m + 3 ≤ i → mL M4 (ma mb 55) i = mL M (ma mb 55) i) (hcm : ∀ i, i < 6 → mL M4 (ma mb 29) i = cmL τ p m k i), un τ 26 26 + 1 - k < k183 → V pp l ee ({ frames := 4, cells := 0, slots := 0, locals := 104 } : Room) ss mm ar bw mt cd G (MQ bw (Ke G (fun v M' => v = none ∧ fOut [28, 29, 55, 65] mb M M' ∧ (∀ i, i < 3 → mL M' (ma mb 55) (3 * m + i) = grL τ p m i) ∧ (∀ i, i < 3 * m ∨ 3 * m + 3 ≤ i → mL M' (ma mb 55) i = mL M (ma mb 55) i) ∧ (∀ e, e < 6 → mL M' (ma mb 65) (24 * e + m) = elL τ p m e) ∧ ∀ i, i % 24 ≠ m → mL M' (ma mb 65) i = mL M (ma mb 65) i)) ar ss 0 0 (gA G)) 11 M4 0 0 183 [(0, .ref mb), (1, .int (nI p)), (2, .int (nI m)), (3, .long (lN (bsN τ p m (un τ 9 9)))), (5, .long (lN (hrN τ p m (un τ 9 9)))), (7, .int (nI k))] [] := by
                      intro k183
                      induction k183 with
                      | zero => intro M4 k hk hfo hgr hfr hcm hz183; exact absurd hz183 (Nat.not_lt_zero _)
                      | succ k183 ih183 =>
                        intro M4 k hk hfo hgr hfr hcm hz183
                        have ht := hfo.te rfl ht0
                        have hm := hfo.ok hm0
                        have hhr := hrN_le (n := un τ 9 9) (p := p) hw hmn (Nat.le_refl _)
                        refine r_iload C 5 dX12_grossOf_183 rfl ?_
                        refine r_aload_n C 0 dX12_grossOf_185 rfl rfl ?_
                        refine r_getI C fl_X12_316 rfl hm.k dX12_grossOf_186 ?_
                        refine V.ei (y := nI (un τ 26 26)) ((ht.s 26 rfl).trans hw.ne.1) ?_
                        refine r_icmp_geN C (t := 271) (by omega) (by omega) dX12_grossOf_189 (by decide) (fun c189 => ?_) (fun c189 => ?_)
                        · skip
                          have ek : k = un τ 26 26 := by omega
                          subst ek
                          refine r_iconst C (v := nI 0) dX12_grossOf_271 (by decide) ?_
                          refine r_istore C (lo' := [(7, .int (nI 0)), (0, .ref mb), (1, .int (nI p)), (2, .int (nI m)), (3, .long (lN (bsN τ p m (un τ 9 9)))), (5, .long (lN (hrN τ p m (un τ 9 9))))]) dX12_grossOf_272 (by decide) rfl ?_
                          have lp274 : ∀ (k274 : Nat) (M6 : Mem) (q : Nat) (hq : q ≤ 6) (hfo6 : fOut [65] mb M4 M6) (hel6 : ∀ e, e < q → mL M6 (ma mb 65) (24 * e + m) = elL τ p m e) (hef : ∀ i, i % 24 ≠ m → mL M6 (ma mb 65) i = mL M (ma mb 65) i), 7 - q < k274 → V pp l ee ({ frames := 4, cells := 0, slots := 0, locals := 104 } : Room) ss mm ar bw mt cd G (MQ bw (Ke G (fun v M' => v = none ∧ fOut [28, 29, 55, 65] mb M M' ∧ (∀ i, i < 3 → mL M' (ma mb 55) (3 * m + i) = grL τ p m i) ∧ (∀ i, i < 3 * m ∨ 3 * m + 3 ≤ i → mL M' (ma mb 55) i = mL M (ma mb 55) i) ∧ (∀ e, e < 6 → mL M' (ma mb 65) (24 * e + m) = elL τ p m e) ∧ ∀ i, i % 24 ≠ m → mL M' (ma mb 65) i = mL M (ma mb 65) i)) ar ss 0 0 (gA G)) 11 M6 0 0 274 [(0, .ref mb), (1, .int (nI p)), (2, .int (nI m)), (7, .int (nI q))] [] := by
                            intro k274
                            induction k274 with
                            | zero => intro M6 q hq hfo6 hel6 hef hz274; exact absurd hz274 (Nat.not_lt_zero _)
                            | succ k274 ih274 =>
                              intro M6 q hq hfo6 hel6 hef hz274
                              have hm := hfo6.ok hm
                              refine r_iload C 3 dX12_grossOf_274 rfl ?_
                              refine r_bipush C (v := nI 6) dX12_grossOf_276 (by decide) ?_
                              refine r_icmp_geN C (t := 306) (by omega) (by omega) dX12_grossOf_278 (by decide) (fun c278 => ?_) (fun c278 => ?_)
                              · skip
                                have eq6 : q = 6 := by omega
                                subst eq6
                                exact r_vret C hr (⟨rfl, (hfo.mono rfl).tr (hfo6.mono rfl), fun i hi => by rw [hfo6.l 55 rfl]; exact hgr i hi, fun i hi => by rw [hfo6.l 55 rfl]; exact hfr i hi, hel6, hef⟩) (by first | exact Nat.zero_le _ | decide) (by first | exact Nat.zero_le _ | decide) dX12_grossOf_306
                              · skip
                                refine r_aload_n C 0 dX12_grossOf_281 rfl rfl ?_
                                refine r_getR C (b := (ma mb 65)) fl_X12_173 rfl hm.k (hm.r 65 rfl) dX12_grossOf_282 ?_
                                refine r_bipush C (v := nI 24) dX12_grossOf_285 (by decide) ?_
                                refine r_iload C 3 dX12_grossOf_287 rfl ?_
                                refine r_imulN C dX12_grossOf_289 ?_
                                refine r_iload_n C 2 dX12_grossOf_290 rfl rfl ?_
                                refine r_iaddN C dX12_grossOf_291 ?_
                                refine r_aload_n C 0 dX12_grossOf_292 rfl rfl ?_
                                refine r_getR C (b := (ma mb 29)) fl_X12_74 rfl hm.k (hm.r 29 rfl) dX12_grossOf_293 ?_
                                refine r_iload C 3 dX12_grossOf_296 rfl ?_
                                refine r_laloadN C (hm.i 29 21 rfl) (hm.n 29 6 rfl) (by omega) (by omega) dX12_grossOf_298 ?_
                                refine V.el (y := elL τ p m q) ((congrFun (hfo6.l 29 rfl) q).trans (hcm q (by omega))) ?_
                                refine r_lastoreN C (hm.i 65 21 rfl) (hm.n 65 144 rfl) (by omega) (by omega) dX12_grossOf_299 ?_
                                refine r_iinc C (v := nI (q + 1)) (lo' := [(7, .int (nI (q + 1))), (0, .ref mb), (1, .int (nI p)), (2, .int (nI m))]) 3 dX12_grossOf_300 rfl (nI_addI q 1) (by decide) rfl ?_
                                refine r_goto C (t := 274) dX12_grossOf_303 (by decide) ?_
                                refine V.sub [1, 2, 3, 0] (lo' := [(0, .ref mb), (1, .int (nI p)), (2, .int (nI m)), (7, .int (nI (q + 1)))]) rfl ?_
                                exact ih274 (wL M6 (ma mb 65) (24 * q + m) (elL τ p m q)) (q + 1) (by omega) (hfo6.setL 65 _ _ rfl) (fun i hi => by by_cases z : i = q; (subst z; exact up2_same _ _ _ _); exact (up2_k _ _ (by omega)).trans (hel6 i (by omega))) (fun i hi => (up2_k _ _ (by omega)).trans (hef i hi)) (by omega)
                          refine V.sub [1, 2, 3, 0] (lo' := [(0, .ref mb), (1, .int (nI p)), (2, .int (nI m)), (7, .int (nI 0))]) rfl ?_
                          exact lp274 _ M4 0 (Nat.zero_le _) (fOut.rf _ _ _) (fun i hi => absurd hi (Nat.not_lt_zero _)) (fun i _ => congrFun (hfo.l 65 rfl) i) (Nat.lt_succ_self _)
                        · skip
                          have hod := (hw.od k (by omega)).2
                          refine r_aload_n C 0 dX12_grossOf_192 rfl rfl ?_
                          refine r_getR C (b := (ma mb 27)) fl_X12_67 rfl hm.k (hm.r 27 rfl) dX12_grossOf_193 ?_
                          refine r_iload C 5 dX12_grossOf_196 rfl ?_
                          refine r_ialoadN C (hm.i 27 20 rfl) (hm.n 27 6 rfl) (by omega) (by omega) dX12_grossOf_198 ?_
                          refine V.ei (y := nI (un τ 27 k)) ((ht.i 27 rfl _).trans ((hw.od k (by omega)).1).1) ?_
                          have hb0 := ((hw.od k (by omega)).1).2
                          refine r_istore C (lo' := [(8, .int (nI (un τ 27 k))), (0, .ref mb), (1, .int (nI p)), (2, .int (nI m)), (3, .long (lN (bsN τ p m (un τ 9 9)))), (5, .long (lN (hrN τ p m (un τ 9 9)))), (7, .int (nI k))]) dX12_grossOf_199 (by decide) rfl ?_
                          refine r_aload_n C 1 dX12_grossOf_201 rfl rfl ?_
                          refine r_getR C (b := (ma mb 29)) fl_X12_74 rfl hm.k (hm.r 29 rfl) dX12_grossOf_202 ?_
                          refine r_iload C 0 dX12_grossOf_205 rfl ?_
                          refine r_aload_n C 1 dX12_grossOf_207 rfl rfl ?_
                          refine r_getR C (b := (ma mb 25)) fl_X12_64 rfl hm.k (hm.r 25 rfl) dX12_grossOf_208 ?_
                          refine r_iload C 0 dX12_grossOf_211 rfl ?_
                          refine r_ialoadN C (hm.i 25 20 rfl) (hm.n 25 6 rfl) (by omega) (by omega) dX12_grossOf_213 ?_
                          refine V.ei (y := nI (un τ 25 (un τ 27 k))) ((ht.i 25 rfl _).trans (hw.ep (un τ 27 k) (by omega)).1) ?_
                          have hb2 := (hw.ep (un τ 27 k) (by omega)).2
                          refine r_iload_n C 2 dX12_grossOf_214 rfl rfl ?_
                          refine r_ishr C dX12_grossOf_215 ?_
                          refine V.ei (y := nI ((un τ 25 (un τ 27 k)) / 2 ^ p)) (nI_shr (by have := (hw.ep (un τ 27 k) hod).2; omega) (by omega)) ?_
                          refine r_iconst C (v := nI 1) dX12_grossOf_216 (by decide) ?_
                          refine r_iand C dX12_grossOf_217 ?_
                          refine V.ei (y := nI (((un τ 25 (un τ 27 k)) / 2 ^ p) &&& 1)) (nI_and (by have := (hw.ep (un τ 27 k) hod).2; have := Nat.div_le_self (un τ 25 (un τ 27 k)) (2 ^ p); omega) (by decide)) ?_
                          refine r_iconst C (v := nI 1) dX12_grossOf_218 (by decide) ?_
                          refine r_icmp_neN C (t := 238) (by exact Nat.lt_of_le_of_lt Nat.and_le_right (by decide)) (by omega) dX12_grossOf_219 (by decide) (fun c219 => ?_) (fun c219 => ?_)
                          · skip
                            refine r_lconst C (v := lN 0) dX12_grossOf_238 (by decide) ?_
                            refine V.el (y := (if (un τ 25 (un τ 27 k)).testBit p = true then formL τ (cmL τ p m k) (lN (bsN τ p m (un τ 9 9))) (lN (hrN τ p m (un τ 9 9) / 60)) (un τ 27 k) else lN 0)) (by rw [if_neg (fun z => c219 ((tb1 _ _).mpr z))]) ?_
                            have hfoX := hfo
                            have hgrX := hgr
                            have hcmX := hcm
                            have hfrX := hfr
                            refine r_lastoreN C (hm.i 29 21 rfl) (hm.n 29 6 rfl) (by omega) (by omega) dX12_grossOf_239 ?_
                            have ht : TE (mI (wL M4 (ma mb 29) (un τ 27 k) (if (un τ 25 (un τ 27 k)).testBit p = true then formL τ (cmL τ p m k) (lN (bsN τ p m (un τ 9 9))) (lN (hrN τ p m (un τ 9 9) / 60)) (un τ 27 k) else lN 0))) (mL (wL M4 (ma mb 29) (un τ 27 k) (if (un τ 25 (un τ 27 k)).testBit p = true then formL τ (cmL τ p m k) (lN (bsN τ p m (un τ 9 9))) (lN (hrN τ p m (un τ 9 9) / 60)) (un τ 27 k) else lN 0))) mb τ := ht.wl 29 (un τ 27 k) (if (un τ 25 (un τ 27 k)).testBit p = true then formL τ (cmL τ p m k) (lN (bsN τ p m (un τ 9 9))) (lN (hrN τ p m (un τ 9 9) / 60)) (un τ 27 k) else lN 0) rfl
                            have hm : MOK (mK (wL M4 (ma mb 29) (un τ 27 k) (if (un τ 25 (un τ 27 k)).testBit p = true then formL τ (cmL τ p m k) (lN (bsN τ p m (un τ 9 9))) (lN (hrN τ p m (un τ 9 9) / 60)) (un τ 27 k) else lN 0))) (mN (wL M4 (ma mb 29) (un τ 27 k) (if (un τ 25 (un τ 27 k)).testBit p = true then formL τ (cmL τ p m k) (lN (bsN τ p m (un τ 9 9))) (lN (hrN τ p m (un τ 9 9) / 60)) (un τ 27 k) else lN 0))) (mR (wL M4 (ma mb 29) (un τ 27 k) (if (un τ 25 (un τ 27 k)).testBit p = true then formL τ (cmL τ p m k) (lN (bsN τ p m (un τ 9 9))) (lN (hrN τ p m (un τ 9 9) / 60)) (un τ 27 k) else lN 0))) mb := hm
                            have hc1 : cmL τ p m (k + 1) = vp_updL (cmL τ p m k) (un τ 27 k) (if (un τ 25 (un τ 27 k)).testBit p = true then formL τ (cmL τ p m k) (lN (bsN τ p m (un τ 9 9))) (lN (hrN τ p m (un τ 9 9) / 60)) (un τ 27 k) else lN 0) := rfl
                            have hcmY : ∀ i, i < 6 → mL (wL M4 (ma mb 29) (un τ 27 k) (if (un τ 25 (un τ 27 k)).testBit p = true then formL τ (cmL τ p m k) (lN (bsN τ p m (un τ 9 9))) (lN (hrN τ p m (un τ 9 9) / 60)) (un τ 27 k) else lN 0)) (ma mb 29) i = cmL τ p m (k + 1) i := by
                              intro i hi
                              rw [hc1]
                              by_cases z : i = un τ 27 k
                              · subst z; exact (up2_same _ _ _ _).trans pk_uLs.symm
                              · exact (up2_k _ _ z).trans ((hcmX i hi).trans (pk_uLn z).symm)
                            have hfoX : fOut [28, 29, 55] mb M (wL M4 (ma mb 29) (un τ 27 k) (if (un τ 25 (un τ 27 k)).testBit p = true then formL τ (cmL τ p m k) (lN (bsN τ p m (un τ 9 9))) (lN (hrN τ p m (un τ 9 9) / 60)) (un τ 27 k) else lN 0)) := hfoX.setL 29 _ _ rfl
                            have hgrX : ∀ i, i < 3 → mL (wL M4 (ma mb 29) (un τ 27 k) (if (un τ 25 (un τ 27 k)).testBit p = true then formL τ (cmL τ p m k) (lN (bsN τ p m (un τ 9 9))) (lN (hrN τ p m (un τ 9 9) / 60)) (un τ 27 k) else lN 0)) (ma mb 55) (3 * m + i) = boL τ p m i + lN (gbN τ p m i (un τ 9 9)) + (if i = homeN τ p m then gE τ p m k else 0) := fun i hi => (congrFun (up2_row _ _ (ma_ne rfl)) _).trans (hgrX i hi)
                            have hfrX : ∀ i, i < 3 * m ∨ 3 * m + 3 ≤ i → mL (wL M4 (ma mb 29) (un τ 27 k) (if (un τ 25 (un τ 27 k)).testBit p = true then formL τ (cmL τ p m k) (lN (bsN τ p m (un τ 9 9))) (lN (hrN τ p m (un τ 9 9) / 60)) (un τ 27 k) else lN 0)) (ma mb 55) i = mL M (ma mb 55) i := fun i hi => (congrFun (up2_row _ _ (ma_ne rfl)) i).trans (hfrX i hi)
                            generalize eM7 : (wL M4 (ma mb 29) (un τ 27 k) (if (un τ 25 (un τ 27 k)).testBit p = true then formL τ (cmL τ p m k) (lN (bsN τ p m (un τ 9 9))) (lN (hrN τ p m (un τ 9 9) / 60)) (un τ 27 k) else lN 0)) = M7 at ht hm hcmY hfoX hgrX hfrX ⊢
                            have hh2 := homeN_le hw p m
                            refine r_aload_n C 1 dX12_grossOf_240 rfl rfl ?_
                            refine r_getR C (b := (ma mb 55)) fl_X12_143 rfl hm.k (hm.r 55 rfl) dX12_grossOf_241 ?_
                            refine r_iconst C (v := nI 3) dX12_grossOf_244 (by decide) ?_
                            refine r_iload_n C 3 dX12_grossOf_245 rfl rfl ?_
                            refine r_imulN C dX12_grossOf_246 ?_
                            refine r_aload_n C 1 dX12_grossOf_247 rfl rfl ?_
                            refine r_iload_n C 2 dX12_grossOf_248 rfl rfl ?_
                            refine r_iload_n C 3 dX12_grossOf_249 rfl rfl ?_
                            refine r_callV C hgX (ci := 14) ml_X12_364 im_X12_home se_X12_home rfl rfl hm.k (c_X12_home l hfl G M7 mb τ hm ht hw p m (by omega) (by omega)) rfl (Nat.le_of_ble_eq_true rfl) ⟨Nat.le_of_ble_eq_true rfl, Nat.le_of_ble_eq_true rfl⟩ ⟨Nat.le_of_ble_eq_true rfl, Nat.le_of_ble_eq_true rfl⟩ dX12_grossOf_250 rfl ?_
                            rintro _ _ ⟨rfl, rfl⟩
                            refine V.eSt (st' := [.int (nI (homeN τ p m)), .int (nI (3 * m)), .ref (ma mb 55)]) rfl ?_
                            refine r_iaddN C dX12_grossOf_253 ?_
                            refine r_dup2 C dX12_grossOf_254 rfl rfl ?_
                            refine r_laloadN C (hm.i 55 21 rfl) (hm.n 55 72 rfl) (by omega) (by omega) dX12_grossOf_255 ?_
                            refine V.el (y := boL τ p m (homeN τ p m) + lN (gbN τ p m (homeN τ p m) (un τ 9 9)) + gE τ p m k) ((hgrX _ (by omega)).trans (by rw [if_pos rfl])) ?_
                            refine r_aload_n C 1 dX12_grossOf_256 rfl rfl ?_
                            refine r_getR C (b := (ma mb 29)) fl_X12_74 rfl hm.k (hm.r 29 rfl) dX12_grossOf_257 ?_
                            refine r_iload C 0 dX12_grossOf_260 rfl ?_
                            refine r_laloadN C (hm.i 29 21 rfl) (hm.n 29 6 rfl) (by omega) (by omega) dX12_grossOf_262 ?_
                            refine V.el (y := cmL τ p m (k + 1) (un τ 27 k)) (hcmY _ (by omega)) ?_
                            refine r_ladd C dX12_grossOf_263 ?_
                            refine r_lastoreN C (hm.i 55 21 rfl) (hm.n 55 72 rfl) (by omega) (by omega) dX12_grossOf_264 ?_
                            have hgr5 : ∀ i, i < 3 → mL (wL M7 (ma mb 55) (3 * m + homeN τ p m) ((boL τ p m (homeN τ p m) + lN (gbN τ p m (homeN τ p m) (un τ 9 9)) + gE τ p m k) + (cmL τ p m (k + 1) (un τ 27 k)))) (ma mb 55) (3 * m + i) = boL τ p m i + lN (gbN τ p m i (un τ 9 9)) + (if i = homeN τ p m then gE τ p m (k + 1) else 0) := by
                              intro i hi
                              by_cases z : i = homeN τ p m
                              · rw [z, if_pos rfl]; refine (up2_same _ _ _ _).trans ?_; show _ = _ + (gE τ p m k + cmL τ p m (k + 1) (un τ 27 k)); rw [Int64.add_assoc]
                              · rw [if_neg z]; refine (up2_k _ _ (by omega)).trans ((hgrX i hi).trans ?_); rw [if_neg z]
                            refine r_iinc C (v := nI (k + 1)) (lo' := [(7, .int (nI (k + 1))), (8, .int (nI (un τ 27 k))), (0, .ref mb), (1, .int (nI p)), (2, .int (nI m)), (3, .long (lN (bsN τ p m (un τ 9 9)))), (5, .long (lN (hrN τ p m (un τ 9 9))))]) 6 dX12_grossOf_265 rfl (nI_addI k 1) (by decide) rfl ?_
                            refine r_goto C (t := 183) dX12_grossOf_268 (by decide) ?_
                            refine V.sub [2, 3, 4, 5, 6, 0] (lo' := [(0, .ref mb), (1, .int (nI p)), (2, .int (nI m)), (3, .long (lN (bsN τ p m (un τ 9 9)))), (5, .long (lN (hrN τ p m (un τ 9 9)))), (7, .int (nI (k + 1)))]) rfl ?_
                            exact ih183 (wL M7 (ma mb 55) (3 * m + homeN τ p m) ((boL τ p m (homeN τ p m) + lN (gbN τ p m (homeN τ p m) (un τ 9 9)) + gE τ p m k) + (cmL τ p m (k + 1) (un τ 27 k)))) (k + 1) (by omega) (hfoX.setL 55 _ _ rfl) hgr5 (fun i hi => (up2_k _ _ (by omega)).trans (hfrX i hi)) (fun i hi => (congrFun (up2_row _ _ (ma_ne rfl)) i).trans (hcmY i hi)) (by omega)
                          · skip
                            refine r_aload_n C 1 dX12_grossOf_222 rfl rfl ?_
                            refine r_iload C 0 dX12_grossOf_223 rfl ?_
                            refine r_lload_n C 4 dX12_grossOf_225 rfl rfl ?_
                            refine r_lload C 5 dX12_grossOf_226 rfl ?_
                            refine r_ldc2 C (v := 60) kl_X12_221 dX12_grossOf_228 ?_
                            refine V.el (y := lN 60) (by decide) ?_
                            refine r_ldivN C (by omega) (by omega) (by omega) dX12_grossOf_231 ?_
                            refine r_callV C hgX (ci := 14) ml_X12_361 im_X12_formula se_X12_formula rfl rfl hm.k (c_X12_formula l hfl G M4 mb τ hm ht hw (un τ 27 k) (by omega) (lN (bsN τ p m (un τ 9 9))) (lN ((hrN τ p m (un τ 9 9)) / 60))) rfl (Nat.le_of_ble_eq_true rfl) ⟨Nat.le_of_ble_eq_true rfl, Nat.le_of_ble_eq_true rfl⟩ ⟨Nat.le_of_ble_eq_true rfl, Nat.le_of_ble_eq_true rfl⟩ dX12_grossOf_232 rfl ?_
                            rintro _ My4 ⟨rfl, hfo4⟩
                            refine V.eSt (st' := [.long (formL τ (mL M4 (ma mb 29)) (lN (bsN τ p m (un τ 9 9))) (lN ((hrN τ p m (un τ 9 9)) / 60)) (un τ 27 k)), .int (nI (un τ 27 k)), .ref (ma mb 29)]) rfl ?_
                            refine r_goto C (t := 239) dX12_grossOf_235 (by decide) ?_
                            refine V.el (y := (if (un τ 25 (un τ 27 k)).testBit p = true then formL τ (cmL τ p m k) (lN (bsN τ p m (un τ 9 9))) (lN (hrN τ p m (un τ 9 9) / 60)) (un τ 27 k) else lN 0)) (by rw [if_pos ((tb1 _ _).mp c219)]; exact formL_cg hne hcm _ _ _) ?_
                            have hfoX := hfo.tr ((hfo4).mono (L' := [28, 29, 55]) rfl)
                            have hgrX : ∀ i, i < 3 → mL My4 (ma mb 55) (3 * m + i) = boL τ p m i + lN (gbN τ p m i (un τ 9 9)) + (if i = homeN τ p m then gE τ p m k else 0) := fun i hi => by rw [hfo4.l 55 rfl]; exact hgr i hi
                            have hcmX : ∀ i, i < 6 → mL My4 (ma mb 29) i = cmL τ p m k i := fun i hi => by rw [hfo4.l 29 rfl]; exact hcm i hi
                            have hfrX : ∀ i, i < 3 * m ∨ 3 * m + 3 ≤ i → mL My4 (ma mb 55) i = mL M (ma mb 55) i := fun i hi => by rw [hfo4.l 55 rfl]; exact hfr i hi
                            have ht := hfo4.te rfl ht
                            have hm := hfo4.ok hm
                            refine r_lastoreN C (hm.i 29 21 rfl) (hm.n 29 6 rfl) (by omega) (by omega) dX12_grossOf_239 ?_
                            have ht : TE (mI (wL My4 (ma mb 29) (un τ 27 k) (if (un τ 25 (un τ 27 k)).testBit p = true then formL τ (cmL τ p m k) (lN (bsN τ p m (un τ 9 9))) (lN (hrN τ p m (un τ 9 9) / 60)) (un τ 27 k) else lN 0))) (mL (wL My4 (ma mb 29) (un τ 27 k) (if (un τ 25 (un τ 27 k)).testBit p = true then formL τ (cmL τ p m k) (lN (bsN τ p m (un τ 9 9))) (lN (hrN τ p m (un τ 9 9) / 60)) (un τ 27 k) else lN 0))) mb τ := ht.wl 29 (un τ 27 k) (if (un τ 25 (un τ 27 k)).testBit p = true then formL τ (cmL τ p m k) (lN (bsN τ p m (un τ 9 9))) (lN (hrN τ p m (un τ 9 9) / 60)) (un τ 27 k) else lN 0) rfl
                            have hm : MOK (mK (wL My4 (ma mb 29) (un τ 27 k) (if (un τ 25 (un τ 27 k)).testBit p = true then formL τ (cmL τ p m k) (lN (bsN τ p m (un τ 9 9))) (lN (hrN τ p m (un τ 9 9) / 60)) (un τ 27 k) else lN 0))) (mN (wL My4 (ma mb 29) (un τ 27 k) (if (un τ 25 (un τ 27 k)).testBit p = true then formL τ (cmL τ p m k) (lN (bsN τ p m (un τ 9 9))) (lN (hrN τ p m (un τ 9 9) / 60)) (un τ 27 k) else lN 0))) (mR (wL My4 (ma mb 29) (un τ 27 k) (if (un τ 25 (un τ 27 k)).testBit p = true then formL τ (cmL τ p m k) (lN (bsN τ p m (un τ 9 9))) (lN (hrN τ p m (un τ 9 9) / 60)) (un τ 27 k) else lN 0))) mb := hm
                            have hc1 : cmL τ p m (k + 1) = vp_updL (cmL τ p m k) (un τ 27 k) (if (un τ 25 (un τ 27 k)).testBit p = true then formL τ (cmL τ p m k) (lN (bsN τ p m (un τ 9 9))) (lN (hrN τ p m (un τ 9 9) / 60)) (un τ 27 k) else lN 0) := rfl
                            have hcmY : ∀ i, i < 6 → mL (wL My4 (ma mb 29) (un τ 27 k) (if (un τ 25 (un τ 27 k)).testBit p = true then formL τ (cmL τ p m k) (lN (bsN τ p m (un τ 9 9))) (lN (hrN τ p m (un τ 9 9) / 60)) (un τ 27 k) else lN 0)) (ma mb 29) i = cmL τ p m (k + 1) i := by
                              intro i hi
                              rw [hc1]
                              by_cases z : i = un τ 27 k
                              · subst z; exact (up2_same _ _ _ _).trans pk_uLs.symm
                              · exact (up2_k _ _ z).trans ((hcmX i hi).trans (pk_uLn z).symm)
                            have hfoX : fOut [28, 29, 55] mb M (wL My4 (ma mb 29) (un τ 27 k) (if (un τ 25 (un τ 27 k)).testBit p = true then formL τ (cmL τ p m k) (lN (bsN τ p m (un τ 9 9))) (lN (hrN τ p m (un τ 9 9) / 60)) (un τ 27 k) else lN 0)) := hfoX.setL 29 _ _ rfl
                            have hgrX : ∀ i, i < 3 → mL (wL My4 (ma mb 29) (un τ 27 k) (if (un τ 25 (un τ 27 k)).testBit p = true then formL τ (cmL τ p m k) (lN (bsN τ p m (un τ 9 9))) (lN (hrN τ p m (un τ 9 9) / 60)) (un τ 27 k) else lN 0)) (ma mb 55) (3 * m + i) = boL τ p m i + lN (gbN τ p m i (un τ 9 9)) + (if i = homeN τ p m then gE τ p m k else 0) := fun i hi => (congrFun (up2_row _ _ (ma_ne rfl)) _).trans (hgrX i hi)
                            have hfrX : ∀ i, i < 3 * m ∨ 3 * m + 3 ≤ i → mL (wL My4 (ma mb 29) (un τ 27 k) (if (un τ 25 (un τ 27 k)).testBit p = true then formL τ (cmL τ p m k) (lN (bsN τ p m (un τ 9 9))) (lN (hrN τ p m (un τ 9 9) / 60)) (un τ 27 k) else lN 0)) (ma mb 55) i = mL M (ma mb 55) i := fun i hi => (congrFun (up2_row _ _ (ma_ne rfl)) i).trans (hfrX i hi)
                            generalize eM7 : (wL My4 (ma mb 29) (un τ 27 k) (if (un τ 25 (un τ 27 k)).testBit p = true then formL τ (cmL τ p m k) (lN (bsN τ p m (un τ 9 9))) (lN (hrN τ p m (un τ 9 9) / 60)) (un τ 27 k) else lN 0)) = M7 at ht hm hcmY hfoX hgrX hfrX ⊢
                            have hh2 := homeN_le hw p m
                            refine r_aload_n C 1 dX12_grossOf_240 rfl rfl ?_
                            refine r_getR C (b := (ma mb 55)) fl_X12_143 rfl hm.k (hm.r 55 rfl) dX12_grossOf_241 ?_
                            refine r_iconst C (v := nI 3) dX12_grossOf_244 (by decide) ?_
                            refine r_iload_n C 3 dX12_grossOf_245 rfl rfl ?_
                            refine r_imulN C dX12_grossOf_246 ?_
                            refine r_aload_n C 1 dX12_grossOf_247 rfl rfl ?_
                            refine r_iload_n C 2 dX12_grossOf_248 rfl rfl ?_
                            refine r_iload_n C 3 dX12_grossOf_249 rfl rfl ?_
                            refine r_callV C hgX (ci := 14) ml_X12_364 im_X12_home se_X12_home rfl rfl hm.k (c_X12_home l hfl G M7 mb τ hm ht hw p m (by omega) (by omega)) rfl (Nat.le_of_ble_eq_true rfl) ⟨Nat.le_of_ble_eq_true rfl, Nat.le_of_ble_eq_true rfl⟩ ⟨Nat.le_of_ble_eq_true rfl, Nat.le_of_ble_eq_true rfl⟩ dX12_grossOf_250 rfl ?_
                            rintro _ _ ⟨rfl, rfl⟩
                            refine V.eSt (st' := [.int (nI (homeN τ p m)), .int (nI (3 * m)), .ref (ma mb 55)]) rfl ?_
                            refine r_iaddN C dX12_grossOf_253 ?_
                            refine r_dup2 C dX12_grossOf_254 rfl rfl ?_
                            refine r_laloadN C (hm.i 55 21 rfl) (hm.n 55 72 rfl) (by omega) (by omega) dX12_grossOf_255 ?_
                            refine V.el (y := boL τ p m (homeN τ p m) + lN (gbN τ p m (homeN τ p m) (un τ 9 9)) + gE τ p m k) ((hgrX _ (by omega)).trans (by rw [if_pos rfl])) ?_
                            refine r_aload_n C 1 dX12_grossOf_256 rfl rfl ?_
                            refine r_getR C (b := (ma mb 29)) fl_X12_74 rfl hm.k (hm.r 29 rfl) dX12_grossOf_257 ?_
                            refine r_iload C 0 dX12_grossOf_260 rfl ?_
                            refine r_laloadN C (hm.i 29 21 rfl) (hm.n 29 6 rfl) (by omega) (by omega) dX12_grossOf_262 ?_
                            refine V.el (y := cmL τ p m (k + 1) (un τ 27 k)) (hcmY _ (by omega)) ?_
                            refine r_ladd C dX12_grossOf_263 ?_
                            refine r_lastoreN C (hm.i 55 21 rfl) (hm.n 55 72 rfl) (by omega) (by omega) dX12_grossOf_264 ?_
                            have hgr5 : ∀ i, i < 3 → mL (wL M7 (ma mb 55) (3 * m + homeN τ p m) ((boL τ p m (homeN τ p m) + lN (gbN τ p m (homeN τ p m) (un τ 9 9)) + gE τ p m k) + (cmL τ p m (k + 1) (un τ 27 k)))) (ma mb 55) (3 * m + i) = boL τ p m i + lN (gbN τ p m i (un τ 9 9)) + (if i = homeN τ p m then gE τ p m (k + 1) else 0) := by
                              intro i hi
                              by_cases z : i = homeN τ p m
                              · rw [z, if_pos rfl]; refine (up2_same _ _ _ _).trans ?_; show _ = _ + (gE τ p m k + cmL τ p m (k + 1) (un τ 27 k)); rw [Int64.add_assoc]
                              · rw [if_neg z]; refine (up2_k _ _ (by omega)).trans ((hgrX i hi).trans ?_); rw [if_neg z]
                            refine r_iinc C (v := nI (k + 1)) (lo' := [(7, .int (nI (k + 1))), (8, .int (nI (un τ 27 k))), (0, .ref mb), (1, .int (nI p)), (2, .int (nI m)), (3, .long (lN (bsN τ p m (un τ 9 9)))), (5, .long (lN (hrN τ p m (un τ 9 9))))]) 6 dX12_grossOf_265 rfl (nI_addI k 1) (by decide) rfl ?_
                            refine r_goto C (t := 183) dX12_grossOf_268 (by decide) ?_
                            refine V.sub [2, 3, 4, 5, 6, 0] (lo' := [(0, .ref mb), (1, .int (nI p)), (2, .int (nI m)), (3, .long (lN (bsN τ p m (un τ 9 9)))), (5, .long (lN (hrN τ p m (un τ 9 9)))), (7, .int (nI (k + 1)))]) rfl ?_
                            exact ih183 (wL M7 (ma mb 55) (3 * m + homeN τ p m) ((boL τ p m (homeN τ p m) + lN (gbN τ p m (homeN τ p m) (un τ 9 9)) + gE τ p m k) + (cmL τ p m (k + 1) (un τ 27 k)))) (k + 1) (by omega) (hfoX.setL 55 _ _ rfl) hgr5 (fun i hi => (up2_k _ _ (by omega)).trans (hfrX i hi)) (fun i hi => (congrFun (up2_row _ _ (ma_ne rfl)) i).trans (hcmY i hi)) (by omega)
                    refine V.sub [1, 2, 3, 4, 5, 0] (lo' := [(0, .ref mb), (1, .int (nI p)), (2, .int (nI m)), (3, .long (lN (bsN τ p m (un τ 9 9)))), (5, .long (lN (hrN τ p m (un τ 9 9)))), (7, .int (nI 0))]) rfl ?_
                    exact lp183 _ M3 0 (Nat.zero_le _) (hfo.tr (hfo3.mono rfl)) (fun i hi => by rw [hfo3.l 55 rfl, hgr i hi]; split <;> exact (Int64.add_zero _).symm) (fun i hi => by rw [hfo3.l 55 rfl]; exact hfr i hi) hcz (Nat.lt_succ_self _)
                  · skip
                    refine r_aload_n C 0 dX12_grossOf_166 rfl rfl ?_
                    refine r_getR C (b := (ma mb 29)) fl_X12_74 rfl hm.k (hm.r 29 rfl) dX12_grossOf_167 ?_
                    refine r_iload C 5 dX12_grossOf_170 rfl ?_
                    refine r_lconst C (v := lN 0) dX12_grossOf_172 (by decide) ?_
                    refine r_lastoreN C (hm.i 29 21 rfl) (hm.n 29 6 rfl) (by omega) (by omega) dX12_grossOf_173 ?_
                    refine r_iinc C (v := nI (q + 1)) (lo' := [(7, .int (nI (q + 1))), (0, .ref mb), (1, .int (nI p)), (2, .int (nI m)), (3, .long (lN (bsN τ p m (un τ 9 9)))), (5, .long (lN (hrN τ p m (un τ 9 9))))]) 5 dX12_grossOf_174 rfl (nI_addI q 1) (by decide) rfl ?_
                    refine r_goto C (t := 159) dX12_grossOf_177 (by decide) ?_
                    refine V.sub [1, 2, 3, 4, 5, 0] (lo' := [(0, .ref mb), (1, .int (nI p)), (2, .int (nI m)), (3, .long (lN (bsN τ p m (un τ 9 9)))), (5, .long (lN (hrN τ p m (un τ 9 9)))), (7, .int (nI (q + 1)))]) rfl ?_
                    exact ih159 (wL M3 (ma mb 29) q (lN 0)) (q + 1) (by omega) (hfo3.setL 29 _ _ rfl) (fun i hi => by by_cases z : i = q; (subst z; exact up2_same _ _ _ _); exact (up2_k _ _ (by omega)).trans (hcz i (by omega))) (by omega)
              refine V.sub [1, 2, 3, 4, 5, 0] (lo' := [(0, .ref mb), (1, .int (nI p)), (2, .int (nI m)), (3, .long (lN (bsN τ p m (un τ 9 9)))), (5, .long (lN (hrN τ p m (un τ 9 9)))), (7, .int (nI 0))]) rfl ?_
              exact lp159 _ M1 0 (Nat.zero_le _) (fOut.rf _ _ _) (fun i hi => absurd hi (Nat.not_lt_zero _)) (Nat.lt_succ_self _)
            · skip
              refine r_aload_n C 0 dX12_grossOf_60 rfl rfl ?_
              refine r_getR C (b := (ma mb 0)) fl_X12_7 rfl hm.k (hm.r 0 rfl) dX12_grossOf_61 ?_
              refine r_iload C 5 dX12_grossOf_64 rfl ?_
              refine r_ialoadN C (hm.i 0 20 rfl) (hm.n 0 10 rfl) (by omega) (by omega) dX12_grossOf_66 ?_
              refine V.ei (y := nI (un τ 0 c)) ((ht.i 0 rfl _).trans (hw.cw c (by omega)).1) ?_
              have hb4 := (hw.cw c (by omega)).2
              refine r_iload_n C 1 dX12_grossOf_67 rfl rfl ?_
              refine r_icmp_neN C (t := 150) (by omega) (by omega) dX12_grossOf_68 (by decide) (fun c68 => ?_) (fun c68 => ?_)
              · skip
                have hbs : bsN τ p m (c + 1) = bsN τ p m c := by unfold bsN; rw [sumN_1, if_neg c68]; rfl
                have hhs : hrN τ p m (c + 1) = hrN τ p m c := by unfold hrN; rw [sumN_1, if_neg c68]; rfl
                have hgs : ∀ i, gbN τ p m i (c + 1) = gbN τ p m i c := fun i => by unfold gbN; rw [sumN_1, if_neg (fun q => c68 q.1)]; rfl
                refine r_iinc C (v := nI (c + 1)) (lo' := [(7, .int (nI (c + 1))), (0, .ref mb), (1, .int (nI p)), (2, .int (nI m)), (3, .long (lN (bsN τ p m c))), (5, .long (lN (hrN τ p m c)))]) 5 dX12_grossOf_150 rfl (nI_addI c 1) (by decide) rfl ?_
                refine r_goto C (t := 51) dX12_grossOf_153 (by decide) ?_
                have jb3 : (bsN τ p m c) = (bsN τ p m (c + 1)) := by exact hbs.symm
                refine V.eLo (lo' := [(7, .int (nI (c + 1))), (0, .ref mb), (1, .int (nI p)), (2, .int (nI m)), (3, .long (lN (bsN τ p m (c + 1)))), (5, .long (lN (hrN τ p m c)))]) (congrArg (fun z_ => ([(7, .int (nI (c + 1))), (0, .ref mb), (1, .int (nI p)), (2, .int (nI m)), (3, .long (lN z_)), (5, .long (lN (hrN τ p m c)))] : List (Nat × Value))) jb3) ?_
                have jb5 : (hrN τ p m c) = (hrN τ p m (c + 1)) := by exact hhs.symm
                refine V.eLo (lo' := [(7, .int (nI (c + 1))), (0, .ref mb), (1, .int (nI p)), (2, .int (nI m)), (3, .long (lN (bsN τ p m (c + 1)))), (5, .long (lN (hrN τ p m (c + 1))))]) (congrArg (fun z_ => ([(7, .int (nI (c + 1))), (0, .ref mb), (1, .int (nI p)), (2, .int (nI m)), (3, .long (lN (bsN τ p m (c + 1)))), (5, .long (lN z_))] : List (Nat × Value))) jb5) ?_
                refine V.sub [1, 2, 3, 4, 5, 0] (lo' := [(0, .ref mb), (1, .int (nI p)), (2, .int (nI m)), (3, .long (lN (bsN τ p m (c + 1)))), (5, .long (lN (hrN τ p m (c + 1)))), (7, .int (nI (c + 1)))]) rfl ?_
                exact ih51 M1 (c + 1) (by omega) hfo (fun i hi => by rw [hgr i hi, hgs i]) hfr (by omega)
              · skip
                have hbs : bsN τ p m (c + 1) = bsN τ p m c + baseN τ (ltN τ) c m := by unfold bsN; rw [sumN_1, if_pos c68]
                have hhs : hrN τ p m (c + 1) = hrN τ p m c + hrC τ c m 30 := by unfold hrN; rw [sumN_1, if_pos c68]
                have hcp := (hw.cp c (by omega)).2
                have hgb : ∀ i, i ≠ un τ 1 c → gbN τ p m i (c + 1) = gbN τ p m i c := fun i z => by unfold gbN; rw [sumN_1, if_neg (fun q => z q.2.symm)]; rfl
                have hgb1 : gbN τ p m (un τ 1 c) (c + 1) = gbN τ p m (un τ 1 c) c + baseN τ (ltN τ) c m := by unfold gbN; rw [sumN_1, if_pos ⟨c68, rfl⟩]
                have hfr2 : ∀ i, i < 3 * m ∨ 3 * m + 3 ≤ i → mL (wL M1 (ma mb 55) (3 * m + un τ 1 c) (boL τ p m (un τ 1 c) + lN (gbN τ p m (un τ 1 c) c) + lN (baseN τ (ltN τ) c m))) (ma mb 55) i = mL M (ma mb 55) i := fun i hi => (up2_k _ _ (by omega)).trans (hfr i hi)
                have hgr2 : ∀ i, i < 3 → mL (wL M1 (ma mb 55) (3 * m + un τ 1 c) (boL τ p m (un τ 1 c) + lN (gbN τ p m (un τ 1 c) c) + lN (baseN τ (ltN τ) c m))) (ma mb 55) (3 * m + i) = boL τ p m i + lN (gbN τ p m i (c + 1)) := by
                  intro i hi
                  by_cases z : i = un τ 1 c
                  · rw [z, hgb1, ← lN_add, ← Int64.add_assoc]; exact up2_same _ _ _ _
                  · rw [hgb i z]; exact (up2_k _ _ (by omega)).trans (hgr i hi)
                refine r_aload_n C 0 dX12_grossOf_71 rfl rfl ?_
                refine r_iload C 5 dX12_grossOf_72 rfl ?_
                refine r_iload_n C 2 dX12_grossOf_74 rfl rfl ?_
                refine r_callV C hgX (ci := 14) ml_X12_281 im_X12_baseOf se_X12_baseOf rfl rfl hm.k (c_X12_baseOf l hfl G M1 mb τ hm ht hw c m lt (by omega) (by omega) (hlt1)) rfl (Nat.le_of_ble_eq_true rfl) ⟨Nat.le_of_ble_eq_true rfl, Nat.le_of_ble_eq_true rfl⟩ ⟨Nat.le_of_ble_eq_true rfl, Nat.le_of_ble_eq_true rfl⟩ dX12_grossOf_75 rfl ?_
                rintro _ _ ⟨rfl, rfl⟩
                refine V.eSt (st' := [.long (lN (baseN τ lt c m))]) rfl ?_
                refine V.el (y := lN (baseN τ (ltN τ) c m)) (congrArg lN (baseN_cg (fun k hk q => hlp k hk (by rw [q]; exact c68)))) ?_
                refine r_lstore C (lo' := [(8, .long (lN (baseN τ (ltN τ) c m))), (0, .ref mb), (1, .int (nI p)), (2, .int (nI m)), (3, .long (lN (bsN τ p m c))), (5, .long (lN (hrN τ p m c))), (7, .int (nI c))]) dX12_grossOf_78 (by decide) rfl ?_
                refine r_lload_n C 4 dX12_grossOf_80 rfl rfl ?_
                refine r_lload C 0 dX12_grossOf_81 rfl ?_
                refine r_laddN C dX12_grossOf_83 ?_
                refine r_lstore_n C (lo' := [(3, .long (lN (bsN τ p m c + (baseN τ (ltN τ) c m)))), (8, .long (lN (baseN τ (ltN τ) c m))), (0, .ref mb), (1, .int (nI p)), (2, .int (nI m)), (5, .long (lN (hrN τ p m c))), (7, .int (nI c))]) dX12_grossOf_84 rfl (by decide) rfl ?_
                refine r_aload_n C 2 dX12_grossOf_85 rfl rfl ?_
                refine r_getR C (b := (ma mb 55)) fl_X12_143 rfl hm.k (hm.r 55 rfl) dX12_grossOf_86 ?_
                refine r_iconst C (v := nI 3) dX12_grossOf_89 (by decide) ?_
                refine r_iload_n C 4 dX12_grossOf_90 rfl rfl ?_
                refine r_imulN C dX12_grossOf_91 ?_
                refine r_aload_n C 2 dX12_grossOf_92 rfl rfl ?_
                refine r_getR C (b := (ma mb 1)) fl_X12_13 rfl hm.k (hm.r 1 rfl) dX12_grossOf_93 ?_
                refine r_iload C 6 dX12_grossOf_96 rfl ?_
                refine r_ialoadN C (hm.i 1 20 rfl) (hm.n 1 10 rfl) (by omega) (by omega) dX12_grossOf_98 ?_
                refine V.ei (y := nI (un τ 1 c)) ((ht.i 1 rfl _).trans (hw.cp c (by omega)).1) ?_
                have hb5 := (hw.cp c (by omega)).2
                refine r_iaddN C dX12_grossOf_99 ?_
                refine r_dup2 C dX12_grossOf_100 rfl rfl ?_
                refine r_laloadN C (hm.i 55 21 rfl) (hm.n 55 72 rfl) (by omega) (by omega) dX12_grossOf_101 ?_
                refine V.el (y := boL τ p m (un τ 1 c) + lN (gbN τ p m (un τ 1 c) c)) (hgr _ (by omega)) ?_
                refine r_lload C 1 dX12_grossOf_102 rfl ?_
                refine r_ladd C dX12_grossOf_104 ?_
                refine r_lastoreN C (hm.i 55 21 rfl) (hm.n 55 72 rfl) (by omega) (by omega) dX12_grossOf_105 ?_
                have ht := ht.wl 55 (3 * m + un τ 1 c) (boL τ p m (un τ 1 c) + lN (gbN τ p m (un τ 1 c) c) + lN (baseN τ (ltN τ) c m)) rfl
                refine r_bipush C (v := nI 30) dX12_grossOf_106 (by decide) ?_
                refine r_iload_n C 4 dX12_grossOf_108 rfl rfl ?_
                refine r_imulN C dX12_grossOf_109 ?_
                refine r_istore C (lo' := [(10, .int (nI (30 * m))), (3, .long (lN (bsN τ p m c + (baseN τ (ltN τ) c m)))), (8, .long (lN (baseN τ (ltN τ) c m))), (0, .ref mb), (1, .int (nI p)), (2, .int (nI m)), (5, .long (lN (hrN τ p m c))), (7, .int (nI c))]) dX12_grossOf_110 (by decide) rfl ?_
                have lp112 : ∀ (k112 : Nat) (j : Nat) (hj : j ≤ 30), 31 - j < k112 → V pp l ee ({ frames := 4, cells := 0, slots := 0, locals := 104 } : Room) ss mm ar bw mt cd G (MQ bw (Ke G (fun v M' => v = none ∧ fOut [28, 29, 55, 65] mb M M' ∧ (∀ i, i < 3 → mL M' (ma mb 55) (3 * m + i) = grL τ p m i) ∧ (∀ i, i < 3 * m ∨ 3 * m + 3 ≤ i → mL M' (ma mb 55) i = mL M (ma mb 55) i) ∧ (∀ e, e < 6 → mL M' (ma mb 65) (24 * e + m) = elL τ p m e) ∧ ∀ i, i % 24 ≠ m → mL M' (ma mb 65) i = mL M (ma mb 65) i)) ar ss 0 0 (gA G)) 11 (wL M1 (ma mb 55) (3 * m + un τ 1 c) ((boL τ p m (un τ 1 c) + lN (gbN τ p m (un τ 1 c) c)) + (lN (baseN τ (ltN τ) c m)))) 0 0 112 [(0, .ref mb), (1, .int (nI p)), (2, .int (nI m)), (3, .long (lN (bsN τ p m c + baseN τ (ltN τ) c m))), (5, .long (lN (hrN τ p m c + hrC τ c m j))), (7, .int (nI c)), (10, .int (nI (30 * m + j)))] [] := by
                  intro k112
                  induction k112 with
                  | zero => intro j hj hz112; exact absurd hz112 (Nat.not_lt_zero _)
                  | succ k112 ih112 =>
                    intro j hj hz112
                    refine r_iload C 6 dX12_grossOf_112 rfl ?_
                    refine r_bipush C (v := nI 30) dX12_grossOf_114 (by decide) ?_
                    refine r_iload_n C 2 dX12_grossOf_116 rfl rfl ?_
                    refine r_imulN C dX12_grossOf_117 ?_
                    refine r_bipush C (v := nI 30) dX12_grossOf_118 (by decide) ?_
                    refine r_iaddN C dX12_grossOf_120 ?_
                    refine r_icmp_geN C (t := 150) (by omega) (by omega) dX12_grossOf_121 (by decide) (fun c121 => ?_) (fun c121 => ?_)
                    · skip
                      have ej : j = 30 := by omega
                      subst ej
                      refine r_iinc C (v := nI (c + 1)) (lo' := [(7, .int (nI (c + 1))), (0, .ref mb), (1, .int (nI p)), (2, .int (nI m)), (3, .long (lN (bsN τ p m c + baseN τ (ltN τ) c m))), (5, .long (lN (hrN τ p m c + hrC τ c m 30))), (10, .int (nI (30 * m + 30)))]) 5 dX12_grossOf_150 rfl (nI_addI c 1) (by decide) rfl ?_
                      refine r_goto C (t := 51) dX12_grossOf_153 (by decide) ?_
                      have jb3 : (bsN τ p m c + baseN τ (ltN τ) c m) = (bsN τ p m (c + 1)) := by exact hbs.symm
                      refine V.eLo (lo' := [(7, .int (nI (c + 1))), (0, .ref mb), (1, .int (nI p)), (2, .int (nI m)), (3, .long (lN (bsN τ p m (c + 1)))), (5, .long (lN (hrN τ p m c + hrC τ c m 30))), (10, .int (nI (30 * m + 30)))]) (congrArg (fun z_ => ([(7, .int (nI (c + 1))), (0, .ref mb), (1, .int (nI p)), (2, .int (nI m)), (3, .long (lN z_)), (5, .long (lN (hrN τ p m c + hrC τ c m 30))), (10, .int (nI (30 * m + 30)))] : List (Nat × Value))) jb3) ?_
                      have jb5 : (hrN τ p m c + hrC τ c m 30) = (hrN τ p m (c + 1)) := by exact hhs.symm
                      refine V.eLo (lo' := [(7, .int (nI (c + 1))), (0, .ref mb), (1, .int (nI p)), (2, .int (nI m)), (3, .long (lN (bsN τ p m (c + 1)))), (5, .long (lN (hrN τ p m (c + 1)))), (10, .int (nI (30 * m + 30)))]) (congrArg (fun z_ => ([(7, .int (nI (c + 1))), (0, .ref mb), (1, .int (nI p)), (2, .int (nI m)), (3, .long (lN (bsN τ p m (c + 1)))), (5, .long (lN z_)), (10, .int (nI (30 * m + 30)))] : List (Nat × Value))) jb5) ?_
                      refine V.sub [1, 2, 3, 4, 5, 0] (lo' := [(0, .ref mb), (1, .int (nI p)), (2, .int (nI m)), (3, .long (lN (bsN τ p m (c + 1)))), (5, .long (lN (hrN τ p m (c + 1)))), (7, .int (nI (c + 1)))]) rfl ?_
                      exact ih51 (wL M1 (ma mb 55) (3 * m + un τ 1 c) ((boL τ p m (un τ 1 c) + lN (gbN τ p m (un τ 1 c) c)) + (lN (baseN τ (ltN τ) c m)))) (c + 1) (by omega) (hfo.setL 55 _ _ rfl) hgr2 hfr2 (by omega)
                    · skip
                      refine r_lload C 4 dX12_grossOf_124 rfl ?_
                      refine r_aload_n C 0 dX12_grossOf_126 rfl rfl ?_
                      refine r_getR C (b := (ma mb 8)) fl_X12_34 rfl hm.k (hm.r 8 rfl) dX12_grossOf_127 ?_
                      refine r_sipush C (v := nI 720) dX12_grossOf_130 (by decide) ?_
                      refine r_iload C 5 dX12_grossOf_133 rfl ?_
                      refine r_imulN C dX12_grossOf_135 ?_
                      refine r_iload C 6 dX12_grossOf_136 rfl ?_
                      refine r_iaddN C dX12_grossOf_138 ?_
                      refine r_ialoadN C (hm.i 8 20 rfl) (hm.n 8 7200 rfl) (by omega) (by omega) dX12_grossOf_139 ?_
                      refine V.ei (y := nI (un τ 8 (720 * c + (30 * m + j)))) ((ht.i 8 rfl _).trans (hw.mn (720 * c + (30 * m + j)) (by omega)).1) ?_
                      have hb6 := (hw.mn (720 * c + (30 * m + j)) (by omega)).2
                      refine r_i2lN C (by omega) dX12_grossOf_140 ?_
                      refine r_laddN C dX12_grossOf_141 ?_
                      refine r_lstore C (lo' := [(5, .long (lN (hrN τ p m c + hrC τ c m j + (un τ 8 (720 * c + (30 * m + j)))))), (0, .ref mb), (1, .int (nI p)), (2, .int (nI m)), (3, .long (lN (bsN τ p m c + baseN τ (ltN τ) c m))), (7, .int (nI c)), (10, .int (nI (30 * m + j)))]) dX12_grossOf_142 (by decide) rfl ?_
                      refine r_iinc C (v := nI (30 * m + j + 1)) (lo' := [(10, .int (nI (30 * m + j + 1))), (5, .long (lN (hrN τ p m c + hrC τ c m j + (un τ 8 (720 * c + (30 * m + j)))))), (0, .ref mb), (1, .int (nI p)), (2, .int (nI m)), (3, .long (lN (bsN τ p m c + baseN τ (ltN τ) c m))), (7, .int (nI c))]) 6 dX12_grossOf_144 rfl (nI_addI (30 * m + j) 1) (by decide) rfl ?_
                      refine r_goto C (t := 112) dX12_grossOf_147 (by decide) ?_
                      have jb5 : (hrN τ p m c + hrC τ c m j + (un τ 8 (720 * c + (30 * m + j)))) = (hrN τ p m c + hrC τ c m (j + 1)) := by show _ = hrN τ p m c + (hrC τ c m j + un τ 8 (720 * c + (30 * m + j))); omega
                      refine V.eLo (lo' := [(10, .int (nI (30 * m + j + 1))), (5, .long (lN (hrN τ p m c + hrC τ c m (j + 1)))), (0, .ref mb), (1, .int (nI p)), (2, .int (nI m)), (3, .long (lN (bsN τ p m c + baseN τ (ltN τ) c m))), (7, .int (nI c))]) (congrArg (fun z_ => ([(10, .int (nI (30 * m + j + 1))), (5, .long (lN z_)), (0, .ref mb), (1, .int (nI p)), (2, .int (nI m)), (3, .long (lN (bsN τ p m c + baseN τ (ltN τ) c m))), (7, .int (nI c))] : List (Nat × Value))) jb5) ?_
                      refine V.sub [2, 3, 4, 5, 1, 6, 0] (lo' := [(0, .ref mb), (1, .int (nI p)), (2, .int (nI m)), (3, .long (lN (bsN τ p m c + baseN τ (ltN τ) c m))), (5, .long (lN (hrN τ p m c + hrC τ c m (j + 1)))), (7, .int (nI c)), (10, .int (nI (30 * m + j + 1)))]) rfl ?_
                      exact ih112 (j + 1) (by omega) (by omega)
                refine V.sub [3, 4, 5, 1, 6, 7, 0] (lo' := [(0, .ref mb), (1, .int (nI p)), (2, .int (nI m)), (3, .long (lN (bsN τ p m c + (baseN τ (ltN τ) c m)))), (5, .long (lN (hrN τ p m c))), (7, .int (nI c)), (10, .int (nI (30 * m)))]) rfl ?_
                exact lp112 _ 0 (Nat.zero_le _) (Nat.lt_succ_self _)
        refine V.sub [1, 2, 3, 4, 5, 0] (lo' := [(0, .ref mb), (1, .int (nI p)), (2, .int (nI m)), (3, .long (lN 0)), (5, .long (lN 0)), (7, .int (nI 0))]) rfl ?_
        exact lp51 _ M1 0 (Nat.zero_le _) hfo (fun i hi => (hgr i hi).trans (Int64.add_zero _).symm) hfr (Nat.lt_succ_self _)
      · skip
        refine r_aload_n C 0 dX12_grossOf_14 rfl rfl ?_
        refine r_getR C (b := (ma mb 55)) fl_X12_143 rfl hm.k (hm.r 55 rfl) dX12_grossOf_15 ?_
        refine r_iconst C (v := nI 3) dX12_grossOf_18 (by decide) ?_
        refine r_iload_n C 2 dX12_grossOf_19 rfl rfl ?_
        refine r_imulN C dX12_grossOf_20 ?_
        refine r_iload C 5 dX12_grossOf_21 rfl ?_
        refine r_iaddN C dX12_grossOf_23 ?_
        refine r_aload_n C 0 dX12_grossOf_24 rfl rfl ?_
        refine r_getR C (b := (ma mb 30)) fl_X12_77 rfl hm.k (hm.r 30 rfl) dX12_grossOf_25 ?_
        refine r_bipush C (v := nI 72) dX12_grossOf_28 (by decide) ?_
        refine r_iload_n C 1 dX12_grossOf_30 rfl rfl ?_
        refine r_imulN C dX12_grossOf_31 ?_
        refine r_iconst C (v := nI 3) dX12_grossOf_32 (by decide) ?_
        refine r_iload_n C 2 dX12_grossOf_33 rfl rfl ?_
        refine r_imulN C dX12_grossOf_34 ?_
        refine r_iaddN C dX12_grossOf_35 ?_
        refine r_iload C 5 dX12_grossOf_36 rfl ?_
        refine r_iaddN C dX12_grossOf_38 ?_
        refine r_ialoadN C (hm.i 30 20 rfl) (hm.n 30 432 rfl) (by omega) (by omega) dX12_grossOf_39 ?_
        refine V.ei (y := τ.1 30 (72 * p + 3 * m + q)) (ht.i 30 rfl _) ?_
        refine r_i2l C dX12_grossOf_40 ?_
        refine r_lastoreN C (hm.i 55 21 rfl) (hm.n 55 72 rfl) (by omega) (by omega) dX12_grossOf_41 ?_
        refine r_iinc C (v := nI (q + 1)) (lo' := [(7, .int (nI (q + 1))), (0, .ref mb), (1, .int (nI p)), (2, .int (nI m)), (3, .long (lN 0)), (5, .long (lN 0))]) 5 dX12_grossOf_42 rfl (nI_addI q 1) (by decide) rfl ?_
        refine r_goto C (t := 8) dX12_grossOf_45 (by decide) ?_
        refine V.sub [1, 2, 3, 4, 5, 0] (lo' := [(0, .ref mb), (1, .int (nI p)), (2, .int (nI m)), (3, .long (lN 0)), (5, .long (lN 0)), (7, .int (nI (q + 1)))]) rfl ?_
        exact ih8 (wL M1 (ma mb 55) (3 * m + q) ((τ.1 30 (72 * p + 3 * m + q)).toInt64)) (q + 1) (by omega) (hfo.setL 55 _ _ rfl) (fun i hi => by by_cases z : i = q; (subst z; exact up2_same _ _ _ _); exact (up2_k _ _ (by omega)).trans (hgr i (by omega))) (fun i hi => (up2_k _ _ (by omega)).trans (hfr i hi)) (by omega)
  refine V.sub [3, 4, 5, 2, 1, 0] (lo' := [(0, .ref mb), (1, .int (nI p)), (2, .int (nI m)), (3, .long (lN 0)), (5, .long (lN 0)), (7, .int (nI 0))]) rfl ?_
  exact lp8 _ M 0 (Nat.zero_le _) (fOut.rf _ _ _) (fun i hi => absurd hi (Nat.not_lt_zero _)) (fun _ _ => rfl) (Nat.lt_succ_self _)
