/-! THE REFERENCE: garnishments -/
theorem i64_r1 (a l t : Int64) : a - l + t = a - (l - t) := by
  rw [Int64.sub_eq_add_neg, Int64.sub_eq_add_neg, Int64.neg_sub, Int64.sub_eq_add_neg, Int64.add_assoc, Int64.add_comm t]
theorem mnL_t {a b : Int64} (h : a < b) : mnL a b = a := if_pos h
theorem mnL_f {a b : Int64} (h : ¬ a < b) : mnL a b = b := if_neg h
theorem pzL_t {a : Int64} (h : lN 0 < a) : pzL a = a := if_pos h
theorem pzL_f {a : Int64} (h : ¬ lN 0 < a) : pzL a = lN 0 := if_neg h
theorem i64_r0 (a : Int64) : a - a = 0 := Int64.sub_self _
def gHad (M : Mem) (mb m g : Nat) : Int64 := if m = 0 then lN 0 else mL M (ma mb 66) (24 * g + m - 1)
def tkG (τ : Mu) (nt h left : Int64) (g : Nat) : Int64 := pzL (mnL (left - lN (un τ 43 g)) (mnL (dwnL (nt * lN (un τ 42 g)) (lN 1000)) (lN (un τ 41 g) - h)))
def lfK (τ : Mu) (p m : Nat) (nt : Int64) (had : Nat → Int64) (r : Nat) (l0 : Int64) : Nat → Int64
  | 0 => l0
  | g + 1 => if un τ 40 g = r ∧ un τ 38 g = p ∧ un τ 39 g ≤ m then lfK τ p m nt had r l0 g - tkG τ nt (had g) (lfK τ p m nt had r l0 g) g else lfK τ p m nt had r l0 g
def lfR (τ : Mu) (p m : Nat) (nt : Int64) (had : Nat → Int64) : Nat → Int64
  | 0 => nt
  | r + 1 => lfK τ p m nt had r (lfR τ p m nt had r) (un τ 44 44)
def goneF (τ : Mu) (p m : Nat) (nt : Int64) (had : Nat → Int64) (g : Nat) : Int64 :=
  if un τ 39 g ≤ m then had g + tkG τ nt (had g) (lfK τ p m nt had (un τ 40 g) (lfR τ p m nt had (un τ 40 g)) g) g else lN 0

set_option maxHeartbeats 4000000 in
set_option maxRecDepth 100000 in
theorem c_X12_garnished (l : Launch) (hfl : l.flags = flags0) (G : gW) (M : Mem) (mb : Nat) (τ : Mu) (hm : MOK (mK M) (mN M) (mR M) mb) (ht : TE (mI M) (mL M) mb τ) (hw : WF τ) (p m : Nat) (hp : p < 6) (hmn : m < 24) : CT l yX12_garnished cX12_garnished 13 none 1 0 0 26 G M [.ref mb, .int (nI p), .int (nI m)] (fun v M' => v = none ∧ fOut [63, 64, 66] mb M M' ∧ mL M' (ma mb 63) m = mL M (ma mb 62) m - lfR τ p m (mL M (ma mb 62) m) (gHad M mb m) 10 ∧ mL M' (ma mb 64) m = lfR τ p m (mL M (ma mb 62) m) (gHad M mb m) 10 ∧ (∀ j, j < un τ 44 44 → un τ 38 j = p → mL M' (ma mb 66) (24 * j + m) = goneF τ p m (mL M (ma mb 62) m) (gHad M mb m) j) ∧ (∀ i, i ≠ m → mL M' (ma mb 63) i = mL M (ma mb 63) i) ∧ (∀ i, i ≠ m → mL M' (ma mb 64) i = mL M (ma mb 64) i) ∧ (∀ i, i % 24 ≠ m → mL M' (ma mb 66) i = mL M (ma mb 66) i)) := by
  refine CT.of hfl rfl (Nat.le_of_ble_eq_true rfl) ?_
  intro pp ee ss mm ar bw mt cd C hgX hr hini
  have hnc := hw.nc.2
  have hsh := hw.sh.2
  have hnl := hw.nl.2
  have hne := hw.ne.2
  have hng := hw.ng.2
  have hop := hw.op.2
  have hnp := hw.np.2
  have ht0 := ht
  have hm0 := hm
  refine V.eLo (lo' := [(0, .ref mb), (1, .int (nI p)), (2, .int (nI m))]) rfl ?_
  refine r_aload_n C 0 dX12_garnished_0 rfl rfl ?_
  refine r_getR C (b := (ma mb 62)) fl_X12_164 rfl hm.k (hm.r 62 rfl) dX12_garnished_1 ?_
  refine r_iload_n C 2 dX12_garnished_4 rfl rfl ?_
  refine r_laloadN C (hm.i 62 21 rfl) (hm.n 62 24 rfl) (by omega) (by omega) dX12_garnished_5 ?_
  refine r_lstore_n C (lo' := [(3, .long (mL M (ma mb 62) m)), (0, .ref mb), (1, .int (nI p)), (2, .int (nI m))]) dX12_garnished_6 rfl (by decide) rfl ?_
  refine r_aload_n C 1 dX12_garnished_7 rfl rfl ?_
  refine r_getR C (b := (ma mb 63)) fl_X12_167 rfl hm.k (hm.r 63 rfl) dX12_garnished_8 ?_
  refine r_iload_n C 3 dX12_garnished_11 rfl rfl ?_
  refine r_lconst C (v := lN 0) dX12_garnished_12 (by decide) ?_
  refine r_lastoreN C (hm.i 63 21 rfl) (hm.n 63 24 rfl) (by omega) (by omega) dX12_garnished_13 ?_
  refine r_iconst C (v := nI 0) dX12_garnished_14 (by decide) ?_
  refine r_istore C (lo' := [(5, .int (nI 0)), (3, .long (mL M (ma mb 62) m)), (0, .ref mb), (1, .int (nI p)), (2, .int (nI m))]) dX12_garnished_15 (by decide) rfl ?_
  have lp17 : ∀ (k17 : Nat) (M1 : Mem) (r : Nat) (hr10 : r ≤ 10) (hfo : fOut [63, 66] mb M M1) (htk : mL M1 (ma mb 63) m = mL M (ma mb 62) m - lfR τ p m (mL M (ma mb 62) m) (gHad M mb m) r) (hf63 : (∀ i, i ≠ m → mL M1 (ma mb 63) i = mL M (ma mb 63) i)) (hgn0 : ∀ j, j < un τ 44 44 → un τ 38 j = p → un τ 40 j < r → mL M1 (ma mb 66) (24 * j + m) = goneF τ p m (mL M (ma mb 62) m) (gHad M mb m) j) (hf66 : (∀ i, i % 24 ≠ m → mL M1 (ma mb 66) i = mL M (ma mb 66) i)), 11 - r < k17 → V pp l ee ({ frames := 1, cells := 0, slots := 0, locals := 26 } : Room) ss mm ar bw mt cd G (MQ bw (Ke G (fun v M' => v = none ∧ fOut [63, 64, 66] mb M M' ∧ mL M' (ma mb 63) m = mL M (ma mb 62) m - lfR τ p m (mL M (ma mb 62) m) (gHad M mb m) 10 ∧ mL M' (ma mb 64) m = lfR τ p m (mL M (ma mb 62) m) (gHad M mb m) 10 ∧ (∀ j, j < un τ 44 44 → un τ 38 j = p → mL M' (ma mb 66) (24 * j + m) = goneF τ p m (mL M (ma mb 62) m) (gHad M mb m) j) ∧ (∀ i, i ≠ m → mL M' (ma mb 63) i = mL M (ma mb 63) i) ∧ (∀ i, i ≠ m → mL M' (ma mb 64) i = mL M (ma mb 64) i) ∧ (∀ i, i % 24 ≠ m → mL M' (ma mb 66) i = mL M (ma mb 66) i))) ar ss 0 0 (gA G)) 13 M1 0 0 17 [(0, .ref mb), (1, .int (nI p)), (2, .int (nI m)), (3, .long (lfR τ p m (mL M (ma mb 62) m) (gHad M mb m) r)), (5, .int (nI r))] [] := by
    intro k17
    induction k17 with
    | zero => intro M1 r hr10 hfo htk hf63 hgn0 hf66 hz17; exact absurd hz17 (Nat.not_lt_zero _)
    | succ k17 ih17 =>
      intro M1 r hr10 hfo htk hf63 hgn0 hf66 hz17
      have ht := hfo.te rfl ht0
      have hm := hfo.ok hm0
      refine r_iload C 4 dX12_garnished_17 rfl ?_
      refine r_bipush C (v := nI 10) dX12_garnished_19 (by decide) ?_
      refine r_icmp_geN C (t := 280) (by omega) (by omega) dX12_garnished_21 (by decide) (fun c21 => ?_) (fun c21 => ?_)
      · skip
        have er : r = 10 := by omega
        subst er
        refine r_aload_n C 0 dX12_garnished_280 rfl rfl ?_
        refine r_getR C (b := (ma mb 64)) fl_X12_170 rfl hm.k (hm.r 64 rfl) dX12_garnished_281 ?_
        refine r_iload_n C 2 dX12_garnished_284 rfl rfl ?_
        refine r_lload_n C 3 dX12_garnished_285 rfl rfl ?_
        refine r_lastoreN C (hm.i 64 21 rfl) (hm.n 64 24 rfl) (by omega) (by omega) dX12_garnished_286 ?_
        exact r_vret C hr (⟨rfl, (hfo.mono rfl).setL 64 _ _ rfl, (congrFun (up2_row _ _ (ma_ne rfl)) _).trans htk, up2_same _ _ _ _, fun j hj hp => (congrFun (up2_row _ _ (ma_ne rfl)) _).trans (hgn0 j hj hp (by have := (hw.gr j hj).2; omega)), fun i hi => (congrFun (up2_row _ _ (ma_ne rfl)) _).trans (hf63 i hi), fun i hi => (up2_k _ _ hi).trans (congrFun (hfo.l 64 rfl) i), fun i hi => (congrFun (up2_row _ _ (ma_ne rfl)) _).trans (hf66 i hi)⟩) (by first | exact Nat.zero_le _ | decide) (by first | exact Nat.zero_le _ | decide) dX12_garnished_287
      · skip
        refine r_iconst C (v := nI 0) dX12_garnished_24 (by decide) ?_
        refine r_istore C (lo' := [(6, .int (nI 0)), (0, .ref mb), (1, .int (nI p)), (2, .int (nI m)), (3, .long (lfR τ p m (mL M (ma mb 62) m) (gHad M mb m) r)), (5, .int (nI r))]) dX12_garnished_25 (by decide) rfl ?_
        have lp27 : ∀ (k27 : Nat) (M2 : Mem) (g : Nat) (hg : g ≤ un τ 44 44) (hfo2 : fOut [63, 66] mb M M2) (htk2 : mL M2 (ma mb 63) m = mL M (ma mb 62) m - lfK τ p m (mL M (ma mb 62) m) (gHad M mb m) r (lfR τ p m (mL M (ma mb 62) m) (gHad M mb m) r) g) (hf63 : (∀ i, i ≠ m → mL M2 (ma mb 63) i = mL M (ma mb 63) i)) (hgn : ∀ j, j < un τ 44 44 → un τ 38 j = p → (un τ 40 j < r ∨ un τ 40 j = r ∧ j < g) → mL M2 (ma mb 66) (24 * j + m) = goneF τ p m (mL M (ma mb 62) m) (gHad M mb m) j) (hf66 : (∀ i, i % 24 ≠ m → mL M2 (ma mb 66) i = mL M (ma mb 66) i)), un τ 44 44 + 1 - g < k27 → V pp l ee ({ frames := 1, cells := 0, slots := 0, locals := 26 } : Room) ss mm ar bw mt cd G (MQ bw (Ke G (fun v M' => v = none ∧ fOut [63, 64, 66] mb M M' ∧ mL M' (ma mb 63) m = mL M (ma mb 62) m - lfR τ p m (mL M (ma mb 62) m) (gHad M mb m) 10 ∧ mL M' (ma mb 64) m = lfR τ p m (mL M (ma mb 62) m) (gHad M mb m) 10 ∧ (∀ j, j < un τ 44 44 → un τ 38 j = p → mL M' (ma mb 66) (24 * j + m) = goneF τ p m (mL M (ma mb 62) m) (gHad M mb m) j) ∧ (∀ i, i ≠ m → mL M' (ma mb 63) i = mL M (ma mb 63) i) ∧ (∀ i, i ≠ m → mL M' (ma mb 64) i = mL M (ma mb 64) i) ∧ (∀ i, i % 24 ≠ m → mL M' (ma mb 66) i = mL M (ma mb 66) i))) ar ss 0 0 (gA G)) 13 M2 0 0 27 [(0, .ref mb), (1, .int (nI p)), (2, .int (nI m)), (3, .long (lfK τ p m (mL M (ma mb 62) m) (gHad M mb m) r (lfR τ p m (mL M (ma mb 62) m) (gHad M mb m) r) g)), (5, .int (nI r)), (6, .int (nI g))] [] := by
          intro k27
          induction k27 with
          | zero => intro M2 g hg hfo2 htk2 hf63 hgn hf66 hz27; exact absurd hz27 (Nat.not_lt_zero _)
          | succ k27 ih27 =>
            intro M2 g hg hfo2 htk2 hf63 hgn hf66 hz27
            have ht := hfo2.te rfl ht0
            have hm := hfo2.ok hm0
            refine r_iload C 5 dX12_garnished_27 rfl ?_
            refine r_aload_n C 0 dX12_garnished_29 rfl rfl ?_
            refine r_getI C fl_X12_371 rfl hm.k dX12_garnished_30 ?_
            refine V.ei (y := nI (un τ 44 44)) ((ht.s 44 rfl).trans hw.ng.1) ?_
            refine r_icmp_geN C (t := 274) (by omega) (by omega) dX12_garnished_33 (by decide) (fun c33 => ?_) (fun c33 => ?_)
            · skip
              have eg : g = un τ 44 44 := by omega
              refine r_iinc C (v := nI (r + 1)) (lo' := [(5, .int (nI (r + 1))), (0, .ref mb), (1, .int (nI p)), (2, .int (nI m)), (3, .long (lfK τ p m (mL M (ma mb 62) m) (gHad M mb m) r (lfR τ p m (mL M (ma mb 62) m) (gHad M mb m) r) g)), (6, .int (nI g))]) 4 dX12_garnished_274 rfl (nI_addI r 1) (by decide) rfl ?_
              refine r_goto C (t := 17) dX12_garnished_277 (by decide) ?_
              have jb3 : (lfK τ p m (mL M (ma mb 62) m) (gHad M mb m) r (lfR τ p m (mL M (ma mb 62) m) (gHad M mb m) r) g) = (lfR τ p m (mL M (ma mb 62) m) (gHad M mb m) (r + 1)) := by subst eg; rfl
              refine V.eLo (lo' := [(5, .int (nI (r + 1))), (0, .ref mb), (1, .int (nI p)), (2, .int (nI m)), (3, .long (lfR τ p m (mL M (ma mb 62) m) (gHad M mb m) (r + 1))), (6, .int (nI g))]) (congrArg (fun z_ => ([(5, .int (nI (r + 1))), (0, .ref mb), (1, .int (nI p)), (2, .int (nI m)), (3, .long z_), (6, .int (nI g))] : List (Nat × Value))) jb3) ?_
              refine V.sub [1, 2, 3, 4, 0] (lo' := [(0, .ref mb), (1, .int (nI p)), (2, .int (nI m)), (3, .long (lfR τ p m (mL M (ma mb 62) m) (gHad M mb m) (r + 1))), (5, .int (nI (r + 1)))]) rfl ?_
              exact ih17 M2 (r + 1) (by omega) hfo2 (by subst eg; exact htk2) hf63 (fun j hj hp hq => hgn j hj hp (by omega)) hf66 (by omega)
            · skip
              refine r_aload_n C 0 dX12_garnished_36 rfl rfl ?_
              refine r_getR C (b := (ma mb 40)) fl_X12_107 rfl hm.k (hm.r 40 rfl) dX12_garnished_37 ?_
              refine r_iload C 5 dX12_garnished_40 rfl ?_
              refine r_ialoadN C (hm.i 40 20 rfl) (hm.n 40 6 rfl) (by omega) (by omega) dX12_garnished_42 ?_
              refine V.ei (y := nI (un τ 40 g)) ((ht.i 40 rfl _).trans (hw.gr g (by omega)).1) ?_
              have hb0 := (hw.gr g (by omega)).2
              refine r_iload C 4 dX12_garnished_43 rfl ?_
              refine r_icmp_neN C (t := 232) (by omega) (by omega) dX12_garnished_45 (by decide) (fun c45 => ?_) (fun c45 => ?_)
              · skip
                have hlk : lfK τ p m (mL M (ma mb 62) m) (gHad M mb m) r (lfR τ p m (mL M (ma mb 62) m) (gHad M mb m) r) (g + 1) = lfK τ p m (mL M (ma mb 62) m) (gHad M mb m) r (lfR τ p m (mL M (ma mb 62) m) (gHad M mb m) r) g := if_neg (fun q => c45 q.1)
                have hsk : un τ 40 g = r → un τ 38 g = p → False := fun q1 q2 => c45 q1
                refine r_aload_n C 0 dX12_garnished_232 rfl rfl ?_
                refine r_getR C (b := (ma mb 40)) fl_X12_107 rfl hm.k (hm.r 40 rfl) dX12_garnished_233 ?_
                refine r_iload C 5 dX12_garnished_236 rfl ?_
                refine r_ialoadN C (hm.i 40 20 rfl) (hm.n 40 6 rfl) (by omega) (by omega) dX12_garnished_238 ?_
                refine V.ei (y := nI (un τ 40 g)) ((ht.i 40 rfl _).trans (hw.gr g (by omega)).1) ?_
                have hb1 := (hw.gr g (by omega)).2
                refine r_iload C 4 dX12_garnished_239 rfl ?_
                refine r_icmp_neN C (t := 268) (by omega) (by omega) dX12_garnished_241 (by decide) (fun c241 => ?_) (fun c241 => ?_)
                · skip
                  refine r_iinc C (v := nI (g + 1)) (lo' := [(6, .int (nI (g + 1))), (0, .ref mb), (1, .int (nI p)), (2, .int (nI m)), (3, .long (lfK τ p m (mL M (ma mb 62) m) (gHad M mb m) r (lfR τ p m (mL M (ma mb 62) m) (gHad M mb m) r) g)), (5, .int (nI r))]) 5 dX12_garnished_268 rfl (nI_addI g 1) (by decide) rfl ?_
                  refine r_goto C (t := 27) dX12_garnished_271 (by decide) ?_
                  have jb3 : (lfK τ p m (mL M (ma mb 62) m) (gHad M mb m) r (lfR τ p m (mL M (ma mb 62) m) (gHad M mb m) r) g) = (lfK τ p m (mL M (ma mb 62) m) (gHad M mb m) r (lfR τ p m (mL M (ma mb 62) m) (gHad M mb m) r) (g + 1)) := by exact hlk.symm
                  refine V.eLo (lo' := [(6, .int (nI (g + 1))), (0, .ref mb), (1, .int (nI p)), (2, .int (nI m)), (3, .long (lfK τ p m (mL M (ma mb 62) m) (gHad M mb m) r (lfR τ p m (mL M (ma mb 62) m) (gHad M mb m) r) (g + 1))), (5, .int (nI r))]) (congrArg (fun z_ => ([(6, .int (nI (g + 1))), (0, .ref mb), (1, .int (nI p)), (2, .int (nI m)), (3, .long z_), (5, .int (nI r))] : List (Nat × Value))) jb3) ?_
                  refine V.sub [1, 2, 3, 4, 5, 0] (lo' := [(0, .ref mb), (1, .int (nI p)), (2, .int (nI m)), (3, .long (lfK τ p m (mL M (ma mb 62) m) (gHad M mb m) r (lfR τ p m (mL M (ma mb 62) m) (gHad M mb m) r) (g + 1))), (5, .int (nI r)), (6, .int (nI (g + 1)))]) rfl ?_
                  exact ih27 M2 (g + 1) (by omega) hfo2 (hlk ▸ htk2) hf63 (fun j hj hp hq => hgn j hj hp (by rcases hq with hq | hq; exact .inl hq; have h5 : j ≠ g := fun z => (by subst z; exact hsk hq.1 hp); exact .inr ⟨hq.1, by omega⟩)) hf66 (by omega)
                · exact absurd c241 c45
              · skip
                refine r_aload_n C 0 dX12_garnished_48 rfl rfl ?_
                refine r_getR C (b := (ma mb 38)) fl_X12_101 rfl hm.k (hm.r 38 rfl) dX12_garnished_49 ?_
                refine r_iload C 5 dX12_garnished_52 rfl ?_
                refine r_ialoadN C (hm.i 38 20 rfl) (hm.n 38 6 rfl) (by omega) (by omega) dX12_garnished_54 ?_
                refine V.ei (y := nI (un τ 38 g)) ((ht.i 38 rfl _).trans (hw.gw g (by omega)).1) ?_
                have hb2 := (hw.gw g (by omega)).2
                refine r_iload_n C 1 dX12_garnished_55 rfl rfl ?_
                refine r_icmp_neN C (t := 232) (by omega) (by omega) dX12_garnished_56 (by decide) (fun c56 => ?_) (fun c56 => ?_)
                · skip
                  have hlk : lfK τ p m (mL M (ma mb 62) m) (gHad M mb m) r (lfR τ p m (mL M (ma mb 62) m) (gHad M mb m) r) (g + 1) = lfK τ p m (mL M (ma mb 62) m) (gHad M mb m) r (lfR τ p m (mL M (ma mb 62) m) (gHad M mb m) r) g := if_neg (fun q => c56 q.2.1)
                  have hsk : un τ 40 g = r → un τ 38 g = p → False := fun q1 q2 => c56 q2
                  refine r_aload_n C 0 dX12_garnished_232 rfl rfl ?_
                  refine r_getR C (b := (ma mb 40)) fl_X12_107 rfl hm.k (hm.r 40 rfl) dX12_garnished_233 ?_
                  refine r_iload C 5 dX12_garnished_236 rfl ?_
                  refine r_ialoadN C (hm.i 40 20 rfl) (hm.n 40 6 rfl) (by omega) (by omega) dX12_garnished_238 ?_
                  refine V.ei (y := nI (un τ 40 g)) ((ht.i 40 rfl _).trans (hw.gr g (by omega)).1) ?_
                  have hb3 := (hw.gr g (by omega)).2
                  refine r_iload C 4 dX12_garnished_239 rfl ?_
                  refine r_icmp_neN C (t := 268) (by omega) (by omega) dX12_garnished_241 (by decide) (fun c241 => ?_) (fun c241 => ?_)
                  · exact absurd c45 c241
                  · skip
                    refine r_aload_n C 0 dX12_garnished_244 rfl rfl ?_
                    refine r_getR C (b := (ma mb 38)) fl_X12_101 rfl hm.k (hm.r 38 rfl) dX12_garnished_245 ?_
                    refine r_iload C 5 dX12_garnished_248 rfl ?_
                    refine r_ialoadN C (hm.i 38 20 rfl) (hm.n 38 6 rfl) (by omega) (by omega) dX12_garnished_250 ?_
                    refine V.ei (y := nI (un τ 38 g)) ((ht.i 38 rfl _).trans (hw.gw g (by omega)).1) ?_
                    have hb4 := (hw.gw g (by omega)).2
                    refine r_iload_n C 1 dX12_garnished_251 rfl rfl ?_
                    refine r_icmp_neN C (t := 268) (by omega) (by omega) dX12_garnished_252 (by decide) (fun c252 => ?_) (fun c252 => ?_)
                    · skip
                      refine r_iinc C (v := nI (g + 1)) (lo' := [(6, .int (nI (g + 1))), (0, .ref mb), (1, .int (nI p)), (2, .int (nI m)), (3, .long (lfK τ p m (mL M (ma mb 62) m) (gHad M mb m) r (lfR τ p m (mL M (ma mb 62) m) (gHad M mb m) r) g)), (5, .int (nI r))]) 5 dX12_garnished_268 rfl (nI_addI g 1) (by decide) rfl ?_
                      refine r_goto C (t := 27) dX12_garnished_271 (by decide) ?_
                      have jb3 : (lfK τ p m (mL M (ma mb 62) m) (gHad M mb m) r (lfR τ p m (mL M (ma mb 62) m) (gHad M mb m) r) g) = (lfK τ p m (mL M (ma mb 62) m) (gHad M mb m) r (lfR τ p m (mL M (ma mb 62) m) (gHad M mb m) r) (g + 1)) := by exact hlk.symm
                      refine V.eLo (lo' := [(6, .int (nI (g + 1))), (0, .ref mb), (1, .int (nI p)), (2, .int (nI m)), (3, .long (lfK τ p m (mL M (ma mb 62) m) (gHad M mb m) r (lfR τ p m (mL M (ma mb 62) m) (gHad M mb m) r) (g + 1))), (5, .int (nI r))]) (congrArg (fun z_ => ([(6, .int (nI (g + 1))), (0, .ref mb), (1, .int (nI p)), (2, .int (nI m)), (3, .long z_), (5, .int (nI r))] : List (Nat × Value))) jb3) ?_
                      refine V.sub [1, 2, 3, 4, 5, 0] (lo' := [(0, .ref mb), (1, .int (nI p)), (2, .int (nI m)), (3, .long (lfK τ p m (mL M (ma mb 62) m) (gHad M mb m) r (lfR τ p m (mL M (ma mb 62) m) (gHad M mb m) r) (g + 1))), (5, .int (nI r)), (6, .int (nI (g + 1)))]) rfl ?_
                      exact ih27 M2 (g + 1) (by omega) hfo2 (hlk ▸ htk2) hf63 (fun j hj hp hq => hgn j hj hp (by rcases hq with hq | hq; exact .inl hq; have h5 : j ≠ g := fun z => (by subst z; exact hsk hq.1 hp); exact .inr ⟨hq.1, by omega⟩)) hf66 (by omega)
                    · exact absurd c252 c56
                · skip
                  refine r_aload_n C 0 dX12_garnished_59 rfl rfl ?_
                  refine r_getR C (b := (ma mb 39)) fl_X12_104 rfl hm.k (hm.r 39 rfl) dX12_garnished_60 ?_
                  refine r_iload C 5 dX12_garnished_63 rfl ?_
                  refine r_ialoadN C (hm.i 39 20 rfl) (hm.n 39 6 rfl) (by omega) (by omega) dX12_garnished_65 ?_
                  refine V.ei (y := nI (un τ 39 g)) ((ht.i 39 rfl _).trans (hw.gm g (by omega)).1) ?_
                  have hb5 := (hw.gm g (by omega)).2
                  refine r_iload_n C 2 dX12_garnished_66 rfl rfl ?_
                  refine r_icmp_gtN C (t := 232) (by omega) (by omega) dX12_garnished_67 (by decide) (fun c67 => ?_) (fun c67 => ?_)
                  · skip
                    have hlk : lfK τ p m (mL M (ma mb 62) m) (gHad M mb m) r (lfR τ p m (mL M (ma mb 62) m) (gHad M mb m) r) (g + 1) = lfK τ p m (mL M (ma mb 62) m) (gHad M mb m) r (lfR τ p m (mL M (ma mb 62) m) (gHad M mb m) r) g := if_neg (fun q => by have := q.2.2; omega)
                    refine r_aload_n C 0 dX12_garnished_232 rfl rfl ?_
                    refine r_getR C (b := (ma mb 40)) fl_X12_107 rfl hm.k (hm.r 40 rfl) dX12_garnished_233 ?_
                    refine r_iload C 5 dX12_garnished_236 rfl ?_
                    refine r_ialoadN C (hm.i 40 20 rfl) (hm.n 40 6 rfl) (by omega) (by omega) dX12_garnished_238 ?_
                    refine V.ei (y := nI (un τ 40 g)) ((ht.i 40 rfl _).trans (hw.gr g (by omega)).1) ?_
                    have hb6 := (hw.gr g (by omega)).2
                    refine r_iload C 4 dX12_garnished_239 rfl ?_
                    refine r_icmp_neN C (t := 268) (by omega) (by omega) dX12_garnished_241 (by decide) (fun c241 => ?_) (fun c241 => ?_)
                    · exact absurd c45 c241
                    · skip
                      refine r_aload_n C 0 dX12_garnished_244 rfl rfl ?_
                      refine r_getR C (b := (ma mb 38)) fl_X12_101 rfl hm.k (hm.r 38 rfl) dX12_garnished_245 ?_
                      refine r_iload C 5 dX12_garnished_248 rfl ?_
                      refine r_ialoadN C (hm.i 38 20 rfl) (hm.n 38 6 rfl) (by omega) (by omega) dX12_garnished_250 ?_
                      refine V.ei (y := nI (un τ 38 g)) ((ht.i 38 rfl _).trans (hw.gw g (by omega)).1) ?_
                      have hb7 := (hw.gw g (by omega)).2
                      refine r_iload_n C 1 dX12_garnished_251 rfl rfl ?_
                      refine r_icmp_neN C (t := 268) (by omega) (by omega) dX12_garnished_252 (by decide) (fun c252 => ?_) (fun c252 => ?_)
                      · exact absurd c56 c252
                      · skip
                        refine r_aload_n C 0 dX12_garnished_255 rfl rfl ?_
                        refine r_getR C (b := (ma mb 66)) fl_X12_176 rfl hm.k (hm.r 66 rfl) dX12_garnished_256 ?_
                        refine r_bipush C (v := nI 24) dX12_garnished_259 (by decide) ?_
                        refine r_iload C 5 dX12_garnished_261 rfl ?_
                        refine r_imulN C dX12_garnished_263 ?_
                        refine r_iload_n C 2 dX12_garnished_264 rfl rfl ?_
                        refine r_iaddN C dX12_garnished_265 ?_
                        refine r_lconst C (v := lN 0) dX12_garnished_266 (by decide) ?_
                        refine r_lastoreN C (hm.i 66 21 rfl) (hm.n 66 144 rfl) (by omega) (by omega) dX12_garnished_267 ?_
                        refine r_iinc C (v := nI (g + 1)) (lo' := [(6, .int (nI (g + 1))), (0, .ref mb), (1, .int (nI p)), (2, .int (nI m)), (3, .long (lfK τ p m (mL M (ma mb 62) m) (gHad M mb m) r (lfR τ p m (mL M (ma mb 62) m) (gHad M mb m) r) g)), (5, .int (nI r))]) 5 dX12_garnished_268 rfl (nI_addI g 1) (by decide) rfl ?_
                        refine r_goto C (t := 27) dX12_garnished_271 (by decide) ?_
                        have jb3 : (lfK τ p m (mL M (ma mb 62) m) (gHad M mb m) r (lfR τ p m (mL M (ma mb 62) m) (gHad M mb m) r) g) = (lfK τ p m (mL M (ma mb 62) m) (gHad M mb m) r (lfR τ p m (mL M (ma mb 62) m) (gHad M mb m) r) (g + 1)) := by exact hlk.symm
                        refine V.eLo (lo' := [(6, .int (nI (g + 1))), (0, .ref mb), (1, .int (nI p)), (2, .int (nI m)), (3, .long (lfK τ p m (mL M (ma mb 62) m) (gHad M mb m) r (lfR τ p m (mL M (ma mb 62) m) (gHad M mb m) r) (g + 1))), (5, .int (nI r))]) (congrArg (fun z_ => ([(6, .int (nI (g + 1))), (0, .ref mb), (1, .int (nI p)), (2, .int (nI m)), (3, .long z_), (5, .int (nI r))] : List (Nat × Value))) jb3) ?_
                        refine V.sub [1, 2, 3, 4, 5, 0] (lo' := [(0, .ref mb), (1, .int (nI p)), (2, .int (nI m)), (3, .long (lfK τ p m (mL M (ma mb 62) m) (gHad M mb m) r (lfR τ p m (mL M (ma mb 62) m) (gHad M mb m) r) (g + 1))), (5, .int (nI r)), (6, .int (nI (g + 1)))]) rfl ?_
                        exact ih27 (wL M2 (ma mb 66) (24 * g + m) (lN 0)) (g + 1) (by omega) (hfo2.setL 66 _ _ rfl) ((congrFun (up2_row _ _ (ma_ne rfl)) _).trans (hlk ▸ htk2)) (fun i hi => (congrFun (up2_row _ _ (ma_ne rfl)) _).trans (hf63 i hi)) (fun j hj hp hq => by by_cases z : j = g; (subst z; refine (up2_same _ _ _ _).trans ?_; unfold goneF; rw [if_neg (by omega)]); exact (up2_k _ _ (by omega)).trans (hgn j hj hp (by omega))) (fun i hi => (up2_k _ _ (by omega)).trans (hf66 i hi)) (by omega)
                  · skip
                    have hlk : lfK τ p m (mL M (ma mb 62) m) (gHad M mb m) r (lfR τ p m (mL M (ma mb 62) m) (gHad M mb m) r) (g + 1) = lfK τ p m (mL M (ma mb 62) m) (gHad M mb m) r (lfR τ p m (mL M (ma mb 62) m) (gHad M mb m) r) g - tkG τ (mL M (ma mb 62) m) (gHad M mb m g) (lfK τ p m (mL M (ma mb 62) m) (gHad M mb m) r (lfR τ p m (mL M (ma mb 62) m) (gHad M mb m) r) g) g := if_pos ⟨c45, c56, by omega⟩
                    have jn92 : V pp l ee ({ frames := 1, cells := 0, slots := 0, locals := 26 } : Room) ss mm ar bw mt cd G (MQ bw (Ke G (fun v M' => v = none ∧ fOut [63, 64, 66] mb M M' ∧ mL M' (ma mb 63) m = mL M (ma mb 62) m - lfR τ p m (mL M (ma mb 62) m) (gHad M mb m) 10 ∧ mL M' (ma mb 64) m = lfR τ p m (mL M (ma mb 62) m) (gHad M mb m) 10 ∧ (∀ j, j < un τ 44 44 → un τ 38 j = p → mL M' (ma mb 66) (24 * j + m) = goneF τ p m (mL M (ma mb 62) m) (gHad M mb m) j) ∧ (∀ i, i ≠ m → mL M' (ma mb 63) i = mL M (ma mb 63) i) ∧ (∀ i, i ≠ m → mL M' (ma mb 64) i = mL M (ma mb 64) i) ∧ (∀ i, i % 24 ≠ m → mL M' (ma mb 66) i = mL M (ma mb 66) i))) ar ss 0 0 (gA G)) 13 M2 0 0 92 [(0, .ref mb), (1, .int (nI p)), (2, .int (nI m)), (3, .long (lfK τ p m (mL M (ma mb 62) m) (gHad M mb m) r (lfR τ p m (mL M (ma mb 62) m) (gHad M mb m) r) g)), (5, .int (nI r)), (6, .int (nI g))] [.long (gHad M mb m g)] := by
                      skip
                      refine r_lstore C (lo' := [(7, .long (gHad M mb m g)), (0, .ref mb), (1, .int (nI p)), (2, .int (nI m)), (3, .long (lfK τ p m (mL M (ma mb 62) m) (gHad M mb m) r (lfR τ p m (mL M (ma mb 62) m) (gHad M mb m) r) g)), (5, .int (nI r)), (6, .int (nI g))]) dX12_garnished_92 (by decide) rfl ?_
                      refine r_aload_n C 1 dX12_garnished_94 rfl rfl ?_
                      refine r_getR C (b := (ma mb 41)) fl_X12_110 rfl hm.k (hm.r 41 rfl) dX12_garnished_95 ?_
                      refine r_iload C 6 dX12_garnished_98 rfl ?_
                      refine r_ialoadN C (hm.i 41 20 rfl) (hm.n 41 6 rfl) (by omega) (by omega) dX12_garnished_100 ?_
                      refine V.ei (y := nI (un τ 41 g)) ((ht.i 41 rfl _).trans (hw.gt g (by omega)).1) ?_
                      have hb8 := (hw.gt g (by omega)).2
                      refine r_i2lN C (by omega) dX12_garnished_101 ?_
                      refine r_lload C 0 dX12_garnished_102 rfl ?_
                      refine r_lsub C dX12_garnished_104 ?_
                      refine r_lstore C (lo' := [(9, .long ((lN (un τ 41 g)) - (gHad M mb m g))), (7, .long (gHad M mb m g)), (0, .ref mb), (1, .int (nI p)), (2, .int (nI m)), (3, .long (lfK τ p m (mL M (ma mb 62) m) (gHad M mb m) r (lfR τ p m (mL M (ma mb 62) m) (gHad M mb m) r) g)), (5, .int (nI r)), (6, .int (nI g))]) dX12_garnished_105 (by decide) rfl ?_
                      refine r_aload_n C 2 dX12_garnished_107 rfl rfl ?_
                      refine r_aload_n C 2 dX12_garnished_108 rfl rfl ?_
                      refine r_getR C (b := (ma mb 62)) fl_X12_164 rfl hm.k (hm.r 62 rfl) dX12_garnished_109 ?_
                      refine r_iload_n C 4 dX12_garnished_112 rfl rfl ?_
                      refine r_laloadN C (hm.i 62 21 rfl) (hm.n 62 24 rfl) (by omega) (by omega) dX12_garnished_113 ?_
                      refine V.el (y := mL M (ma mb 62) m) (congrFun (hfo2.l 62 rfl) _) ?_
                      refine r_aload_n C 2 dX12_garnished_114 rfl rfl ?_
                      refine r_getR C (b := (ma mb 42)) fl_X12_113 rfl hm.k (hm.r 42 rfl) dX12_garnished_115 ?_
                      refine r_iload C 7 dX12_garnished_118 rfl ?_
                      refine r_ialoadN C (hm.i 42 20 rfl) (hm.n 42 6 rfl) (by omega) (by omega) dX12_garnished_120 ?_
                      refine V.ei (y := nI (un τ 42 g)) ((ht.i 42 rfl _).trans (hw.gp g (by omega)).1) ?_
                      have hb9 := (hw.gp g (by omega)).2
                      refine r_i2lN C (by omega) dX12_garnished_121 ?_
                      refine r_lmul C dX12_garnished_122 ?_
                      refine r_ldc2 C (v := 1000) kl_X12_331 dX12_garnished_123 ?_
                      refine V.el (y := lN 1000) (by decide) ?_
                      refine r_callV C hgX (ci := 14) ml_X12_208 im_X12_down se_X12_down rfl rfl hm.k (c_X12_down l hfl G M2 mb ((mL M (ma mb 62) m) * (lN (un τ 42 g))) (lN 1000) (lN_ne0 (by omega) (by omega))) rfl (Nat.le_of_ble_eq_true rfl) ⟨Nat.le_of_ble_eq_true rfl, Nat.le_of_ble_eq_true rfl⟩ ⟨Nat.le_of_ble_eq_true rfl, Nat.le_of_ble_eq_true rfl⟩ dX12_garnished_126 rfl ?_
                      rintro _ _ ⟨rfl, rfl⟩
                      refine V.eSt (st' := [.long (dwnL ((mL M (ma mb 62) m) * (lN (un τ 42 g))) (lN 1000))]) rfl ?_
                      refine r_lstore C (lo' := [(11, .long (dwnL ((mL M (ma mb 62) m) * (lN (un τ 42 g))) (lN 1000))), (9, .long ((lN (un τ 41 g)) - (gHad M mb m g))), (7, .long (gHad M mb m g)), (0, .ref mb), (1, .int (nI p)), (2, .int (nI m)), (3, .long (lfK τ p m (mL M (ma mb 62) m) (gHad M mb m) r (lfR τ p m (mL M (ma mb 62) m) (gHad M mb m) r) g)), (5, .int (nI r)), (6, .int (nI g))]) dX12_garnished_129 (by decide) rfl ?_
                      have jn146 : V pp l ee ({ frames := 1, cells := 0, slots := 0, locals := 26 } : Room) ss mm ar bw mt cd G (MQ bw (Ke G (fun v M' => v = none ∧ fOut [63, 64, 66] mb M M' ∧ mL M' (ma mb 63) m = mL M (ma mb 62) m - lfR τ p m (mL M (ma mb 62) m) (gHad M mb m) 10 ∧ mL M' (ma mb 64) m = lfR τ p m (mL M (ma mb 62) m) (gHad M mb m) 10 ∧ (∀ j, j < un τ 44 44 → un τ 38 j = p → mL M' (ma mb 66) (24 * j + m) = goneF τ p m (mL M (ma mb 62) m) (gHad M mb m) j) ∧ (∀ i, i ≠ m → mL M' (ma mb 63) i = mL M (ma mb 63) i) ∧ (∀ i, i ≠ m → mL M' (ma mb 64) i = mL M (ma mb 64) i) ∧ (∀ i, i % 24 ≠ m → mL M' (ma mb 66) i = mL M (ma mb 66) i))) ar ss 0 0 (gA G)) 13 M2 0 0 146 [(11, .long (dwnL ((mL M (ma mb 62) m) * (lN (un τ 42 g))) (lN 1000))), (9, .long ((lN (un τ 41 g)) - (gHad M mb m g))), (7, .long (gHad M mb m g)), (0, .ref mb), (1, .int (nI p)), (2, .int (nI m)), (3, .long (lfK τ p m (mL M (ma mb 62) m) (gHad M mb m) r (lfR τ p m (mL M (ma mb 62) m) (gHad M mb m) r) g)), (5, .int (nI r)), (6, .int (nI g))] [.long (mnL (dwnL ((mL M (ma mb 62) m) * (lN (un τ 42 g))) (lN 1000)) ((lN (un τ 41 g)) - (gHad M mb m g)))] := by
                        skip
                        refine r_lstore C (lo' := [(9, .long (mnL (dwnL ((mL M (ma mb 62) m) * (lN (un τ 42 g))) (lN 1000)) ((lN (un τ 41 g)) - (gHad M mb m g)))), (11, .long (dwnL ((mL M (ma mb 62) m) * (lN (un τ 42 g))) (lN 1000))), (7, .long (gHad M mb m g)), (0, .ref mb), (1, .int (nI p)), (2, .int (nI m)), (3, .long (lfK τ p m (mL M (ma mb 62) m) (gHad M mb m) r (lfR τ p m (mL M (ma mb 62) m) (gHad M mb m) r) g)), (5, .int (nI r)), (6, .int (nI g))]) dX12_garnished_146 (by decide) rfl ?_
                        have jn179 : V pp l ee ({ frames := 1, cells := 0, slots := 0, locals := 26 } : Room) ss mm ar bw mt cd G (MQ bw (Ke G (fun v M' => v = none ∧ fOut [63, 64, 66] mb M M' ∧ mL M' (ma mb 63) m = mL M (ma mb 62) m - lfR τ p m (mL M (ma mb 62) m) (gHad M mb m) 10 ∧ mL M' (ma mb 64) m = lfR τ p m (mL M (ma mb 62) m) (gHad M mb m) 10 ∧ (∀ j, j < un τ 44 44 → un τ 38 j = p → mL M' (ma mb 66) (24 * j + m) = goneF τ p m (mL M (ma mb 62) m) (gHad M mb m) j) ∧ (∀ i, i ≠ m → mL M' (ma mb 63) i = mL M (ma mb 63) i) ∧ (∀ i, i ≠ m → mL M' (ma mb 64) i = mL M (ma mb 64) i) ∧ (∀ i, i % 24 ≠ m → mL M' (ma mb 66) i = mL M (ma mb 66) i))) ar ss 0 0 (gA G)) 13 M2 0 0 179 [(9, .long (mnL (dwnL ((mL M (ma mb 62) m) * (lN (un τ 42 g))) (lN 1000)) ((lN (un τ 41 g)) - (gHad M mb m g)))), (11, .long (dwnL ((mL M (ma mb 62) m) * (lN (un τ 42 g))) (lN 1000))), (7, .long (gHad M mb m g)), (0, .ref mb), (1, .int (nI p)), (2, .int (nI m)), (3, .long (lfK τ p m (mL M (ma mb 62) m) (gHad M mb m) r (lfR τ p m (mL M (ma mb 62) m) (gHad M mb m) r) g)), (5, .int (nI r)), (6, .int (nI g))] [.long (mnL (lfK τ p m (mL M (ma mb 62) m) (gHad M mb m) r (lfR τ p m (mL M (ma mb 62) m) (gHad M mb m) r) g - lN (un τ 43 g)) (mnL (dwnL ((mL M (ma mb 62) m) * (lN (un τ 42 g))) (lN 1000)) ((lN (un τ 41 g)) - (gHad M mb m g))))] := by
                          skip
                          refine r_lstore C (lo' := [(9, .long (mnL (lfK τ p m (mL M (ma mb 62) m) (gHad M mb m) r (lfR τ p m (mL M (ma mb 62) m) (gHad M mb m) r) g - lN (un τ 43 g)) (mnL (dwnL ((mL M (ma mb 62) m) * (lN (un τ 42 g))) (lN 1000)) ((lN (un τ 41 g)) - (gHad M mb m g))))), (11, .long (dwnL ((mL M (ma mb 62) m) * (lN (un τ 42 g))) (lN 1000))), (7, .long (gHad M mb m g)), (0, .ref mb), (1, .int (nI p)), (2, .int (nI m)), (3, .long (lfK τ p m (mL M (ma mb 62) m) (gHad M mb m) r (lfR τ p m (mL M (ma mb 62) m) (gHad M mb m) r) g)), (5, .int (nI r)), (6, .int (nI g))]) dX12_garnished_179 (by decide) rfl ?_
                          have jn194 : V pp l ee ({ frames := 1, cells := 0, slots := 0, locals := 26 } : Room) ss mm ar bw mt cd G (MQ bw (Ke G (fun v M' => v = none ∧ fOut [63, 64, 66] mb M M' ∧ mL M' (ma mb 63) m = mL M (ma mb 62) m - lfR τ p m (mL M (ma mb 62) m) (gHad M mb m) 10 ∧ mL M' (ma mb 64) m = lfR τ p m (mL M (ma mb 62) m) (gHad M mb m) 10 ∧ (∀ j, j < un τ 44 44 → un τ 38 j = p → mL M' (ma mb 66) (24 * j + m) = goneF τ p m (mL M (ma mb 62) m) (gHad M mb m) j) ∧ (∀ i, i ≠ m → mL M' (ma mb 63) i = mL M (ma mb 63) i) ∧ (∀ i, i ≠ m → mL M' (ma mb 64) i = mL M (ma mb 64) i) ∧ (∀ i, i % 24 ≠ m → mL M' (ma mb 66) i = mL M (ma mb 66) i))) ar ss 0 0 (gA G)) 13 M2 0 0 194 [(9, .long (mnL (lfK τ p m (mL M (ma mb 62) m) (gHad M mb m) r (lfR τ p m (mL M (ma mb 62) m) (gHad M mb m) r) g - lN (un τ 43 g)) (mnL (dwnL ((mL M (ma mb 62) m) * (lN (un τ 42 g))) (lN 1000)) ((lN (un τ 41 g)) - (gHad M mb m g))))), (11, .long (dwnL ((mL M (ma mb 62) m) * (lN (un τ 42 g))) (lN 1000))), (7, .long (gHad M mb m g)), (0, .ref mb), (1, .int (nI p)), (2, .int (nI m)), (3, .long (lfK τ p m (mL M (ma mb 62) m) (gHad M mb m) r (lfR τ p m (mL M (ma mb 62) m) (gHad M mb m) r) g)), (5, .int (nI r)), (6, .int (nI g))] [.long (tkG τ (mL M (ma mb 62) m) (gHad M mb m g) (lfK τ p m (mL M (ma mb 62) m) (gHad M mb m) r (lfR τ p m (mL M (ma mb 62) m) (gHad M mb m) r) g) g)] := by
                            skip
                            refine r_lstore C (lo' := [(9, .long (tkG τ (mL M (ma mb 62) m) (gHad M mb m g) (lfK τ p m (mL M (ma mb 62) m) (gHad M mb m) r (lfR τ p m (mL M (ma mb 62) m) (gHad M mb m) r) g) g)), (11, .long (dwnL ((mL M (ma mb 62) m) * (lN (un τ 42 g))) (lN 1000))), (7, .long (gHad M mb m g)), (0, .ref mb), (1, .int (nI p)), (2, .int (nI m)), (3, .long (lfK τ p m (mL M (ma mb 62) m) (gHad M mb m) r (lfR τ p m (mL M (ma mb 62) m) (gHad M mb m) r) g)), (5, .int (nI r)), (6, .int (nI g))]) dX12_garnished_194 (by decide) rfl ?_
                            refine r_lload_n C 6 dX12_garnished_196 rfl rfl ?_
                            refine r_lload C 0 dX12_garnished_197 rfl ?_
                            refine r_lsub C dX12_garnished_199 ?_
                            refine r_lstore_n C (lo' := [(3, .long ((lfK τ p m (mL M (ma mb 62) m) (gHad M mb m) r (lfR τ p m (mL M (ma mb 62) m) (gHad M mb m) r) g) - (tkG τ (mL M (ma mb 62) m) (gHad M mb m g) (lfK τ p m (mL M (ma mb 62) m) (gHad M mb m) r (lfR τ p m (mL M (ma mb 62) m) (gHad M mb m) r) g) g))), (9, .long (tkG τ (mL M (ma mb 62) m) (gHad M mb m g) (lfK τ p m (mL M (ma mb 62) m) (gHad M mb m) r (lfR τ p m (mL M (ma mb 62) m) (gHad M mb m) r) g) g)), (11, .long (dwnL ((mL M (ma mb 62) m) * (lN (un τ 42 g))) (lN 1000))), (7, .long (gHad M mb m g)), (0, .ref mb), (1, .int (nI p)), (2, .int (nI m)), (5, .int (nI r)), (6, .int (nI g))]) dX12_garnished_200 rfl (by decide) rfl ?_
                            refine r_aload_n C 4 dX12_garnished_201 rfl rfl ?_
                            refine r_getR C (b := (ma mb 63)) fl_X12_167 rfl hm.k (hm.r 63 rfl) dX12_garnished_202 ?_
                            refine r_iload_n C 6 dX12_garnished_205 rfl rfl ?_
                            refine r_dup2 C dX12_garnished_206 rfl rfl ?_
                            refine r_laloadN C (hm.i 63 21 rfl) (hm.n 63 24 rfl) (by omega) (by omega) dX12_garnished_207 ?_
                            refine V.el (y := mL M (ma mb 62) m - lfK τ p m (mL M (ma mb 62) m) (gHad M mb m) r (lfR τ p m (mL M (ma mb 62) m) (gHad M mb m) r) g) (htk2) ?_
                            refine r_lload C 1 dX12_garnished_208 rfl ?_
                            refine r_ladd C dX12_garnished_210 ?_
                            refine r_lastoreN C (hm.i 63 21 rfl) (hm.n 63 24 rfl) (by omega) (by omega) dX12_garnished_211 ?_
                            refine r_aload_n C 4 dX12_garnished_212 rfl rfl ?_
                            refine r_getR C (b := (ma mb 66)) fl_X12_176 rfl hm.k (hm.r 66 rfl) dX12_garnished_213 ?_
                            refine r_bipush C (v := nI 24) dX12_garnished_216 (by decide) ?_
                            refine r_iload C 8 dX12_garnished_218 rfl ?_
                            refine r_imulN C dX12_garnished_220 ?_
                            refine r_iload_n C 6 dX12_garnished_221 rfl rfl ?_
                            refine r_iaddN C dX12_garnished_222 ?_
                            refine r_lload C 3 dX12_garnished_223 rfl ?_
                            refine r_lload C 1 dX12_garnished_225 rfl ?_
                            refine r_ladd C dX12_garnished_227 ?_
                            refine r_lastoreN C (hm.i 66 21 rfl) (hm.n 66 144 rfl) (by omega) (by omega) dX12_garnished_228 ?_
                            refine r_goto C (t := 268) dX12_garnished_229 (by decide) ?_
                            refine r_iinc C (v := nI (g + 1)) (lo' := [(6, .int (nI (g + 1))), (3, .long ((lfK τ p m (mL M (ma mb 62) m) (gHad M mb m) r (lfR τ p m (mL M (ma mb 62) m) (gHad M mb m) r) g) - (tkG τ (mL M (ma mb 62) m) (gHad M mb m g) (lfK τ p m (mL M (ma mb 62) m) (gHad M mb m) r (lfR τ p m (mL M (ma mb 62) m) (gHad M mb m) r) g) g))), (9, .long (tkG τ (mL M (ma mb 62) m) (gHad M mb m g) (lfK τ p m (mL M (ma mb 62) m) (gHad M mb m) r (lfR τ p m (mL M (ma mb 62) m) (gHad M mb m) r) g) g)), (11, .long (dwnL ((mL M (ma mb 62) m) * (lN (un τ 42 g))) (lN 1000))), (7, .long (gHad M mb m g)), (0, .ref mb), (1, .int (nI p)), (2, .int (nI m)), (5, .int (nI r))]) 8 dX12_garnished_268 rfl (nI_addI g 1) (by decide) rfl ?_
                            refine r_goto C (t := 27) dX12_garnished_271 (by decide) ?_
                            have jb3 : ((lfK τ p m (mL M (ma mb 62) m) (gHad M mb m) r (lfR τ p m (mL M (ma mb 62) m) (gHad M mb m) r) g) - (tkG τ (mL M (ma mb 62) m) (gHad M mb m g) (lfK τ p m (mL M (ma mb 62) m) (gHad M mb m) r (lfR τ p m (mL M (ma mb 62) m) (gHad M mb m) r) g) g)) = (lfK τ p m (mL M (ma mb 62) m) (gHad M mb m) r (lfR τ p m (mL M (ma mb 62) m) (gHad M mb m) r) (g + 1)) := by exact hlk.symm
                            refine V.eLo (lo' := [(6, .int (nI (g + 1))), (3, .long (lfK τ p m (mL M (ma mb 62) m) (gHad M mb m) r (lfR τ p m (mL M (ma mb 62) m) (gHad M mb m) r) (g + 1))), (9, .long (tkG τ (mL M (ma mb 62) m) (gHad M mb m g) (lfK τ p m (mL M (ma mb 62) m) (gHad M mb m) r (lfR τ p m (mL M (ma mb 62) m) (gHad M mb m) r) g) g)), (11, .long (dwnL ((mL M (ma mb 62) m) * (lN (un τ 42 g))) (lN 1000))), (7, .long (gHad M mb m g)), (0, .ref mb), (1, .int (nI p)), (2, .int (nI m)), (5, .int (nI r))]) (congrArg (fun z_ => ([(6, .int (nI (g + 1))), (3, .long z_), (9, .long (tkG τ (mL M (ma mb 62) m) (gHad M mb m g) (lfK τ p m (mL M (ma mb 62) m) (gHad M mb m) r (lfR τ p m (mL M (ma mb 62) m) (gHad M mb m) r) g) g)), (11, .long (dwnL ((mL M (ma mb 62) m) * (lN (un τ 42 g))) (lN 1000))), (7, .long (gHad M mb m g)), (0, .ref mb), (1, .int (nI p)), (2, .int (nI m)), (5, .int (nI r))] : List (Nat × Value))) jb3) ?_
                            refine V.sub [5, 6, 7, 1, 8, 0] (lo' := [(0, .ref mb), (1, .int (nI p)), (2, .int (nI m)), (3, .long (lfK τ p m (mL M (ma mb 62) m) (gHad M mb m) r (lfR τ p m (mL M (ma mb 62) m) (gHad M mb m) r) (g + 1))), (5, .int (nI r)), (6, .int (nI (g + 1)))]) rfl ?_
                            exact ih27 (wL (wL M2 (ma mb 63) m ((mL M (ma mb 62) m - lfK τ p m (mL M (ma mb 62) m) (gHad M mb m) r (lfR τ p m (mL M (ma mb 62) m) (gHad M mb m) r) g) + (tkG τ (mL M (ma mb 62) m) (gHad M mb m g) (lfK τ p m (mL M (ma mb 62) m) (gHad M mb m) r (lfR τ p m (mL M (ma mb 62) m) (gHad M mb m) r) g) g))) (ma mb 66) (24 * g + m) ((gHad M mb m g) + (tkG τ (mL M (ma mb 62) m) (gHad M mb m g) (lfK τ p m (mL M (ma mb 62) m) (gHad M mb m) r (lfR τ p m (mL M (ma mb 62) m) (gHad M mb m) r) g) g))) (g + 1) (by omega) ((hfo2.setL 63 _ _ rfl).setL 66 _ _ rfl) ((congrFun (up2_row _ _ (ma_ne rfl)) _).trans ((up2_same _ _ _ _).trans (by rw [hlk, i64_r1]))) (fun i hi => (congrFun (up2_row _ _ (ma_ne rfl)) _).trans ((up2_k _ _ hi).trans (hf63 i hi))) (fun j hj hp hq => by by_cases z : j = g; (subst z; refine (up2_same _ _ _ _).trans ?_; unfold goneF; rw [if_pos (by omega), c45]); exact (up2_k _ _ (by omega)).trans ((congrFun (up2_row _ _ (ma_ne rfl)) _).trans (hgn j hj hp (by omega)))) (fun i hi => (up2_k _ _ (by omega)).trans ((congrFun (up2_row _ _ (ma_ne rfl)) _).trans (hf66 i hi))) (by omega)
                          refine r_lload C 0 dX12_garnished_181 rfl ?_
                          refine r_lconst C (v := lN 0) dX12_garnished_183 (by decide) ?_
                          refine r_lcmp_le C (t := 193) dX12_garnished_184 dX12_garnished_185 (by decide) (fun c185 => ?_) (fun c185 => ?_)
                          · skip
                            refine r_lconst C (v := lN 0) dX12_garnished_193 (by decide) ?_
                            refine V.el (y := tkG τ (mL M (ma mb 62) m) (gHad M mb m g) (lfK τ p m (mL M (ma mb 62) m) (gHad M mb m) r (lfR τ p m (mL M (ma mb 62) m) (gHad M mb m) r) g) g) (by rw [tkG, pzL, if_neg (Int64.not_lt.mpr c185)]) ?_
                            exact jn194
                          · skip
                            refine r_lload C 0 dX12_garnished_188 rfl ?_
                            refine r_goto C (t := 194) dX12_garnished_190 (by decide) ?_
                            refine V.el (y := tkG τ (mL M (ma mb 62) m) (gHad M mb m g) (lfK τ p m (mL M (ma mb 62) m) (gHad M mb m) r (lfR τ p m (mL M (ma mb 62) m) (gHad M mb m) r) g) g) (by rw [tkG, pzL, if_pos (Int64.not_le.mp c185)]) ?_
                            exact jn194
                        refine r_lload_n C 6 dX12_garnished_148 rfl rfl ?_
                        refine r_aload_n C 3 dX12_garnished_149 rfl rfl ?_
                        refine r_getR C (b := (ma mb 43)) fl_X12_116 rfl hm.k (hm.r 43 rfl) dX12_garnished_150 ?_
                        refine r_iload C 8 dX12_garnished_153 rfl ?_
                        refine r_ialoadN C (hm.i 43 20 rfl) (hm.n 43 6 rfl) (by omega) (by omega) dX12_garnished_155 ?_
                        refine V.ei (y := nI (un τ 43 g)) ((ht.i 43 rfl _).trans (hw.gk g (by omega)).1) ?_
                        have hb10 := (hw.gk g (by omega)).2
                        refine r_i2lN C (by omega) dX12_garnished_156 ?_
                        refine r_lsub C dX12_garnished_157 ?_
                        refine r_lload C 0 dX12_garnished_158 rfl ?_
                        refine r_lcmp_ge C (t := 177) dX12_garnished_160 dX12_garnished_161 (by decide) (fun c161 => ?_) (fun c161 => ?_)
                        · skip
                          refine r_lload C 0 dX12_garnished_177 rfl ?_
                          refine V.el (y := mnL (lfK τ p m (mL M (ma mb 62) m) (gHad M mb m) r (lfR τ p m (mL M (ma mb 62) m) (gHad M mb m) r) g - lN (un τ 43 g)) (mnL (dwnL ((mL M (ma mb 62) m) * (lN (un τ 42 g))) (lN 1000)) ((lN (un τ 41 g)) - (gHad M mb m g)))) (by exact (mnL_f (Int64.not_lt.mpr c161)).symm) ?_
                          exact jn179
                        · skip
                          refine r_lload_n C 6 dX12_garnished_164 rfl rfl ?_
                          refine r_aload_n C 3 dX12_garnished_165 rfl rfl ?_
                          refine r_getR C (b := (ma mb 43)) fl_X12_116 rfl hm.k (hm.r 43 rfl) dX12_garnished_166 ?_
                          refine r_iload C 8 dX12_garnished_169 rfl ?_
                          refine r_ialoadN C (hm.i 43 20 rfl) (hm.n 43 6 rfl) (by omega) (by omega) dX12_garnished_171 ?_
                          refine V.ei (y := nI (un τ 43 g)) ((ht.i 43 rfl _).trans (hw.gk g (by omega)).1) ?_
                          have hb11 := (hw.gk g (by omega)).2
                          refine r_i2lN C (by omega) dX12_garnished_172 ?_
                          refine r_lsub C dX12_garnished_173 ?_
                          refine r_goto C (t := 179) dX12_garnished_174 (by decide) ?_
                          refine V.el (y := mnL (lfK τ p m (mL M (ma mb 62) m) (gHad M mb m) r (lfR τ p m (mL M (ma mb 62) m) (gHad M mb m) r) g - lN (un τ 43 g)) (mnL (dwnL ((mL M (ma mb 62) m) * (lN (un τ 42 g))) (lN 1000)) ((lN (un τ 41 g)) - (gHad M mb m g)))) (by exact (mnL_t (Int64.not_le.mp c161)).symm) ?_
                          exact jn179
                      refine r_lload C 0 dX12_garnished_131 rfl ?_
                      refine r_lload C 1 dX12_garnished_133 rfl ?_
                      refine r_lcmp_ge C (t := 144) dX12_garnished_135 dX12_garnished_136 (by decide) (fun c136 => ?_) (fun c136 => ?_)
                      · skip
                        refine r_lload C 1 dX12_garnished_144 rfl ?_
                        refine V.el (y := mnL (dwnL ((mL M (ma mb 62) m) * (lN (un τ 42 g))) (lN 1000)) ((lN (un τ 41 g)) - (gHad M mb m g))) (by unfold mnL; rw [if_neg (Int64.not_lt.mpr c136)]) ?_
                        exact jn146
                      · skip
                        refine r_lload C 0 dX12_garnished_139 rfl ?_
                        refine r_goto C (t := 146) dX12_garnished_141 (by decide) ?_
                        refine V.el (y := mnL (dwnL ((mL M (ma mb 62) m) * (lN (un τ 42 g))) (lN 1000)) ((lN (un τ 41 g)) - (gHad M mb m g))) (by unfold mnL; rw [if_pos (Int64.not_le.mp c136)]) ?_
                        exact jn146
                    refine r_iload_n C 2 dX12_garnished_70 rfl rfl ?_
                    refine r_if_neN C (t := 78) (by omega) dX12_garnished_71 (by decide) (fun c71 => ?_) (fun c71 => ?_)
                    · skip
                      refine r_aload_n C 0 dX12_garnished_78 rfl rfl ?_
                      refine r_getR C (b := (ma mb 66)) fl_X12_176 rfl hm.k (hm.r 66 rfl) dX12_garnished_79 ?_
                      refine r_bipush C (v := nI 24) dX12_garnished_82 (by decide) ?_
                      refine r_iload C 5 dX12_garnished_84 rfl ?_
                      refine r_imulN C dX12_garnished_86 ?_
                      refine r_iload_n C 2 dX12_garnished_87 rfl rfl ?_
                      refine r_iaddN C dX12_garnished_88 ?_
                      refine r_iconst C (v := nI 1) dX12_garnished_89 (by decide) ?_
                      refine r_isubN C (by omega) dX12_garnished_90 ?_
                      refine r_laloadN C (hm.i 66 21 rfl) (hm.n 66 144 rfl) (by omega) (by omega) dX12_garnished_91 ?_
                      refine V.el (y := gHad M mb m g) (by unfold gHad; rw [if_neg c71]; exact hf66 _ (by omega)) ?_
                      exact jn92
                    · skip
                      refine r_lconst C (v := lN 0) dX12_garnished_74 (by decide) ?_
                      refine r_goto C (t := 92) dX12_garnished_75 (by decide) ?_
                      refine V.el (y := gHad M mb m g) (by unfold gHad; rw [if_pos c71]) ?_
                      exact jn92
        refine V.sub [1, 2, 3, 4, 5, 0] (lo' := [(0, .ref mb), (1, .int (nI p)), (2, .int (nI m)), (3, .long (lfR τ p m (mL M (ma mb 62) m) (gHad M mb m) r)), (5, .int (nI r)), (6, .int (nI 0))]) rfl ?_
        exact lp27 _ M1 0 (Nat.zero_le _) hfo htk hf63 (fun j hj hp hq => hgn0 j hj hp (by omega)) hf66 (Nat.lt_succ_self _)
  refine V.sub [2, 3, 4, 1, 0] (lo' := [(0, .ref mb), (1, .int (nI p)), (2, .int (nI m)), (3, .long (mL M (ma mb 62) m)), (5, .int (nI 0))]) rfl ?_
  exact lp17 _ (wL M (ma mb 63) m (lN 0)) 0 (Nat.zero_le _) ((fOut.rf _ _ _).setL 63 _ _ rfl) ((up2_same _ _ _ _).trans (i64_r0 _).symm) (fun i hi => up2_k _ _ hi) (fun j _ _ hq => absurd hq (Nat.not_lt_zero _)) (fun i _ => congrFun (up2_row _ _ (ma_ne rfl)) _) (Nat.lt_succ_self _)
