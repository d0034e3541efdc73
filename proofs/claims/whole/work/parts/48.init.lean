/-! THE REFERENCE: its beginning -/
def CB (M0 M : Mem) (mb j : Nat) : Prop := mK M mb = 15 ∧ (∀ a, mb + 1 + j ≤ a → mK M a = 0) ∧ mN M (mb + 1 + j) = 1 ∧ (∀ k, k < 70 → mkd.getD k 0 ≠ 0 → mrk.getD k 0 ≤ j → mR M mb k = some (ma mb k) ∧ mK M (ma mb k) = mkd.getD k 0 ∧ mN M (ma mb k) = mln.getD k 0) ∧
  (∀ a, mb ≤ a → a ≤ mb + j → mI M a = (fun _ => 0) ∧ mL M a = (fun _ => 0)) ∧ ∀ a, a < mb → mK M a = mK M0 a ∧ mN M a = mN M0 a ∧ mI M a = mI M0 a ∧ mL M a = mL M0 a ∧ mR M a = mR M0 a
theorem mrk_inj : ∀ k k', k < 70 → k' < 70 → mkd.getD k 0 ≠ 0 → mkd.getD k' 0 ≠ 0 → mrk.getD k 0 = mrk.getD k' 0 → k = k' := by
  intro k k' h1 h2 h3 h4 h5
  have key : (List.range 70).all (fun k => (List.range 70).all (fun k' => (mkd.getD k 0 == 0) || ((mkd.getD k' 0 == 0) || ((mrk.getD k 0 != mrk.getD k' 0) || (k == k'))))) = true := by decide +kernel
  have k2 := List.all_eq_true.mp (List.all_eq_true.mp key k (List.mem_range.mpr h1)) k' (List.mem_range.mpr h2)
  simp only [Bool.or_eq_true, beq_iff_eq, bne_iff_ne] at k2
  rcases k2 with k2 | k2 | k2 | k2
  · exact absurd k2 h3
  · exact absurd k2 h4
  · exact absurd h5 k2
  · exact k2
theorem mrk_pos : ∀ k, k < 70 → mkd.getD k 0 ≠ 0 → 1 ≤ mrk.getD k 0 := by
  intro k h1 h2
  have key : (List.range 70).all (fun k => (mkd.getD k 0 == 0) || decide (1 ≤ mrk.getD k 0)) = true := by decide +kernel
  have k2 := List.all_eq_true.mp key k (List.mem_range.mpr h1)
  simp only [Bool.or_eq_true, beq_iff_eq, decide_eq_true_eq] at k2
  exact k2.resolve_left h2
theorem CB.mk {M : Mem} {mb : Nat} (hk : mK M mb = 15) (hz : ∀ a, mb + 1 ≤ a → mK M a = 0) (hn : mN M (mb + 1) = 1) (h0 : mI M mb = (fun _ => 0) ∧ mL M mb = (fun _ => 0)) : CB M M mb 0 :=
  ⟨hk, hz, hn, fun k h1 h2 h3 => by have := mrk_pos k h1 h2; omega, fun a h1 h2 => by rw [show a = mb by omega]; exact h0, fun a _ => ⟨rfl, rfl, rfl, rfl, rfl⟩⟩
theorem CB.st {M0 M : Mem} {mb j : Nat} (h : CB M0 M mb j) (k κ n : Nat) (hk : (decide (k < 70) && ((mkd.getD k 0 == κ) && ((κ != 0) && ((mrk.getD k 0 == j + 1) && (mln.getD k 0 == n))))) = true) : CB M0 (wR (wMk M (mb + 1 + j) κ n) mb k (some (mb + 1 + j))) mb (j + 1) := by
  simp only [Bool.and_eq_true, decide_eq_true_eq, beq_iff_eq, bne_iff_ne] at hk
  obtain ⟨h7, hd, hκ, hr, hl⟩ := hk
  obtain ⟨a1, a2, a3, a4, a5, a6⟩ := h
  have hK : ∀ a, a ≠ mb + 1 + j → mK (wR (wMk M (mb + 1 + j) κ n) mb k (some (mb + 1 + j))) a = mK M a := fun a ha => va_up_ne _ _ ha
  have hN : ∀ a, a ≠ mb + 1 + j → a ≠ mb + 1 + j + 1 → mN (wR (wMk M (mb + 1 + j) κ n) mb k (some (mb + 1 + j))) a = mN M a := fun a h1 h2 => (va_up_ne _ _ h2).trans (va_up_ne _ _ h1)
  have hI : ∀ a, a ≠ mb + 1 + j → mI (wR (wMk M (mb + 1 + j) κ n) mb k (some (mb + 1 + j))) a = mI M a := fun a ha => va_up_ne _ _ ha
  have hL : ∀ a, a ≠ mb + 1 + j → mL (wR (wMk M (mb + 1 + j) κ n) mb k (some (mb + 1 + j))) a = mL M a := fun a ha => va_up_ne _ _ ha
  refine ⟨(hK mb (by omega)).trans a1, fun a ha => (hK a (by omega)).trans (a2 a (by omega)), va_up_self _ _ _, fun i hi1 hi2 hi3 => ?_, fun a h1 h2 => ?_, fun a ha => ?_⟩
  · by_cases e : i = k
    · subst e
      have em : ma mb i = mb + 1 + j := by unfold ma; omega
      rw [em, hd, hl]
      exact ⟨up2_same _ _ _ _, va_up_self _ _ _, (va_up_ne _ _ (by omega)).trans (va_up_self _ _ _)⟩
    · have hne : mrk.getD i 0 ≠ j + 1 := fun z => e (mrk_inj i k hi1 h7 hi2 (by rw [hd]; exact hκ) (by rw [z, hr]))
      obtain ⟨b1, b2, b3⟩ := a4 i hi1 hi2 (by omega)
      have em : ma mb i ≠ mb + 1 + j ∧ ma mb i ≠ mb + 1 + j + 1 := by unfold ma; omega
      refine ⟨?_, (hK _ em.1).trans b2, (hN _ em.1 em.2).trans b3⟩
      rw [← b1]
      exact (up2_k _ _ e).trans (congrFun (va_up_ne _ _ (by omega)) i)
  · by_cases e : a = mb + 1 + j
    · subst e; exact ⟨va_up_self _ _ _, va_up_self _ _ _⟩
    · rw [hI a e, hL a e]; exact a5 a h1 (by omega)
  · obtain ⟨b1, b2, b3, b4, b5⟩ := a6 a ha
    refine ⟨(hK a (by omega)).trans b1, (hN a (by omega) (by omega)).trans b2, (hI a (by omega)).trans b3, (hL a (by omega)).trans b4, ?_⟩
    rw [← b5]
    exact (up2_row _ _ (by omega)).trans (va_up_ne _ _ (by omega))
def τ0 : Mu := (fun k x => if (k = 6 ∧ x < 7200) ∨ (k = 31 ∧ x < 72) ∨ ((k = 36 ∨ k = 37) ∧ x < 144) then -1 else 0, fun _ _ => 0)

theorem init_end {M0 M58 N1 N2 N3 : Mem} {mb : Nat} (hf1 : fOut [6] mb M58 N1) (hf2 : fOut [31] mb N1 N2) (hf3 : fOut [36, 37] mb N2 N3) (hl1 : mL N1 = mL M58) (hl2 : mL N2 = mL N1) (hl3 : mL N3 = mL N2) (h6 : ∀ i, mI N1 (ma mb 6) i = if i < 7200 then -1 else 0) (h31 : ∀ i, mI N2 (ma mb 31) i = if i < 72 then -1 else 0)
    (h36 : ∀ i, mI N3 (ma mb 36) i = if i < 144 then -1 else 0) (h37 : ∀ i, mI N3 (ma mb 37) i = if i < 144 then -1 else 0) (hcb : CB M0 M58 mb 58) (hz0 : ∀ k, k < 70 → mI M58 (ma mb k) = (fun _ => 0) ∧ mL M58 (ma mb k) = (fun _ => 0)) (hm0 : MOK (mK M58) (mN M58) (mR M58) mb) :
    (none : Option Value) = none ∧ MOK (mK N3) (mN N3) (mR N3) mb ∧ (∀ k, k < 70 → if mkd.getD k 0 = 0 then mI N3 mb k = 0 else ∀ i, mI N3 (ma mb k) i = τ0.1 k i ∧ mL N3 (ma mb k) i = 0) ∧ (∀ a, mb + 59 ≤ a → mK N3 a = 0) ∧ mN N3 (mb + 59) = 1 ∧ ∀ a, a < mb → mK N3 a = mK M0 a ∧ mN N3 a = mN M0 a ∧ mI N3 a = mI M0 a ∧ mL N3 a = mL M0 a ∧ mR N3 a = mR M0 a := by
  have eK : mK N3 = mK M58 := hf3.1.trans (hf2.1.trans hf1.1)
  have eN : mN N3 = mN M58 := hf3.2.1.trans (hf2.2.1.trans hf1.2.1)
  have eR : mR N3 = mR M58 := hf3.2.2.1.trans (hf2.2.2.1.trans hf1.2.2.1)
  have f3 := ((hf1.mono (L' := [6, 31, 36, 37]) rfl).tr (hf2.mono (L' := [6, 31, 36, 37]) rfl)).tr (hf3.mono (L' := [6, 31, 36, 37]) rfl)
  refine ⟨rfl, f3.ok hm0, fun k hk => ?_, fun a ha => by rw [eK]; exact hcb.2.1 a (by omega), by rw [eN]; exact hcb.2.2.1, fun a ha => ?_⟩
  · have hc : ([6, 31, 36, 37] : List Nat).contains k = true ↔ k = 6 ∨ k = 31 ∨ k = 36 ∨ k = 37 := by simp
    by_cases z : mkd.getD k 0 = 0
    · rw [if_pos z]
      have hcf : ([6, 31, 36, 37] : List Nat).contains k = false := by
        cases q : ([6, 31, 36, 37] : List Nat).contains k with
        | false => rfl
        | true => rcases hc.mp q with e | e | e | e <;> (subst e; exact absurd z (by decide))
      rw [(f3.2.2.2.2 k hk hcf).1 z, (hcb.2.2.2.2.1 mb (Nat.le_refl _) (by omega)).1]
    · rw [if_neg z]
      intro i
      refine ⟨?_, by rw [hl3, hl2, hl1, (hz0 k hk).2]⟩
      show _ = if (k = 6 ∧ i < 7200) ∨ (k = 31 ∧ i < 72) ∨ ((k = 36 ∨ k = 37) ∧ i < 144) then -1 else 0
      by_cases e6 : k = 6
      · subst e6; rw [hf3.i 6 rfl, hf2.i 6 rfl, h6 i]; exact if_cg ⟨fun q => by omega, fun q => by omega⟩
      by_cases e31 : k = 31
      · subst e31; rw [hf3.i 31 rfl, h31 i]; exact if_cg ⟨fun q => by omega, fun q => by omega⟩
      by_cases e36 : k = 36
      · subst e36; rw [h36 i]; exact if_cg ⟨fun q => by omega, fun q => by omega⟩
      by_cases e37 : k = 37
      · subst e37; rw [h37 i]; exact if_cg ⟨fun q => by omega, fun q => by omega⟩
      have hcf : ([6, 31, 36, 37] : List Nat).contains k = false := by
        cases q : ([6, 31, 36, 37] : List Nat).contains k with
        | false => rfl
        | true => rcases hc.mp q with e | e | e | e <;> omega
      rw [((f3.2.2.2.2 k hk hcf).2 z).1, (hz0 k hk).1, if_neg (by omega)]
  · obtain ⟨b1, b2, b3, b4, b5⟩ := hcb.2.2.2.2.2 a ha
    have o := f3.2.2.2.1 a (.inl ha)
    rw [eK, eN, eR, o.1, o.2]
    exact ⟨b1, b2, b3, b4, b5⟩
set_option maxHeartbeats 4000000 in
set_option maxRecDepth 100000 in
theorem c_X12_init (l : Launch) (hfl : l.flags = flags0) (G : gW) (M : Mem) (mb : Nat) (hgb0 : gB G ≤ mb) (hk : mK M mb = 15) (hz : ∀ a, mb + 1 ≤ a → mK M a = 0) (hn : mN M (mb + 1) = 1) (h0 : mI M mb = (fun _ => 0) ∧ mL M mb = (fun _ => 0)) : CT l yX12_init cX12_init 2 none 1 58 26809 12 G M [.ref mb] (fun v M' => v = none ∧ MOK (mK M') (mN M') (mR M') mb ∧ (∀ k, k < 70 → if mkd.getD k 0 = 0 then mI M' mb k = 0 else ∀ i, mI M' (ma mb k) i = τ0.1 k i ∧ mL M' (ma mb k) i = 0) ∧ (∀ a, mb + 59 ≤ a → mK M' a = 0) ∧ mN M' (mb + 59) = 1 ∧ ∀ a, a < mb → mK M' a = mK M a ∧ mN M' a = mN M a ∧ mI M' a = mI M a ∧ mL M' a = mL M a ∧ mR M' a = mR M a) := by
  refine CT.of hfl rfl (Nat.le_of_ble_eq_true rfl) ?_
  intro pp ee ss mm ar bw mt cd C hgX hr hini
  have hcb := CB.mk hk hz hn h0
  have hgb : gB G ≤ mb + 1 + 0 := by omega
  refine V.eLo (lo' := [(0, .ref mb)]) rfl ?_
  refine r_aload_n C 0 dX12_init_0 rfl rfl ?_
  refine r_objInit C oi_X12 oi_im oi_cd dX12_init_1 (Nat.le_of_ble_eq_true rfl) (Nat.le_of_ble_eq_true rfl) ?_
  refine r_aload_n C 0 dX12_init_4 rfl rfl ?_
  refine r_bipush C (v := nI 10) dX12_init_5 (by decide) ?_
  refine r_newarr C (q := mb + 1 + 0) 0 (by decide) rfl ac_int (by decide) (hgb) (hcb.2.1 _ (Nat.le_refl _)) (hcb.2.2.1) (Nat.le_of_ble_eq_true rfl) (Nat.le_of_ble_eq_true rfl) dX12_init_7 ?_
  refine r_putRF C fl_X12_7 (hini rfl) (fun r h => by cases h; rfl) rfl rfl rfl (show mK (wMk M (mb + 1 + 0) 20 10) mb = 14 + 1 from va_up_ne _ _ (by omega) |>.trans hcb.1) dX12_init_9 ?_
  have hcb := hcb.st 0 20 10 rfl
  clear hgb
  have hgb : gB G ≤ mb + 1 + 1 := by omega
  generalize (wR (wMk M (mb + 1 + 0) 20 10) mb 0 (some (mb + 1 + 0))) = M1 at hcb ⊢
  refine r_aload_n C 0 dX12_init_12 rfl rfl ?_
  refine r_bipush C (v := nI 10) dX12_init_13 (by decide) ?_
  refine r_newarr C (q := mb + 1 + 1) 0 (by decide) rfl ac_int (by decide) (hgb) (hcb.2.1 _ (Nat.le_refl _)) (hcb.2.2.1) (Nat.le_of_ble_eq_true rfl) (Nat.le_of_ble_eq_true rfl) dX12_init_15 ?_
  refine r_putRF C fl_X12_13 (hini rfl) (fun r h => by cases h; rfl) rfl rfl rfl (show mK (wMk M1 (mb + 1 + 1) 20 10) mb = 14 + 1 from va_up_ne _ _ (by omega) |>.trans hcb.1) dX12_init_17 ?_
  have hcb := hcb.st 1 20 10 rfl
  clear hgb
  have hgb : gB G ≤ mb + 1 + 2 := by omega
  generalize (wR (wMk M1 (mb + 1 + 1) 20 10) mb 1 (some (mb + 1 + 1))) = M2 at hcb ⊢
  refine r_aload_n C 0 dX12_init_20 rfl rfl ?_
  refine r_bipush C (v := nI 10) dX12_init_21 (by decide) ?_
  refine r_newarr C (q := mb + 1 + 2) 0 (by decide) rfl ac_int (by decide) (hgb) (hcb.2.1 _ (Nat.le_refl _)) (hcb.2.2.1) (Nat.le_of_ble_eq_true rfl) (Nat.le_of_ble_eq_true rfl) dX12_init_23 ?_
  refine r_putRF C fl_X12_16 (hini rfl) (fun r h => by cases h; rfl) rfl rfl rfl (show mK (wMk M2 (mb + 1 + 2) 20 10) mb = 14 + 1 from va_up_ne _ _ (by omega) |>.trans hcb.1) dX12_init_25 ?_
  have hcb := hcb.st 2 20 10 rfl
  clear hgb
  have hgb : gB G ≤ mb + 1 + 3 := by omega
  generalize (wR (wMk M2 (mb + 1 + 2) 20 10) mb 2 (some (mb + 1 + 2))) = M3 at hcb ⊢
  refine r_aload_n C 0 dX12_init_28 rfl rfl ?_
  refine r_bipush C (v := nI 10) dX12_init_29 (by decide) ?_
  refine r_newarr C (q := mb + 1 + 3) 0 (by decide) rfl ac_int (by decide) (hgb) (hcb.2.1 _ (Nat.le_refl _)) (hcb.2.2.1) (Nat.le_of_ble_eq_true rfl) (Nat.le_of_ble_eq_true rfl) dX12_init_31 ?_
  refine r_putRF C fl_X12_19 (hini rfl) (fun r h => by cases h; rfl) rfl rfl rfl (show mK (wMk M3 (mb + 1 + 3) 20 10) mb = 14 + 1 from va_up_ne _ _ (by omega) |>.trans hcb.1) dX12_init_33 ?_
  have hcb := hcb.st 3 20 10 rfl
  clear hgb
  have hgb : gB G ≤ mb + 1 + 4 := by omega
  generalize (wR (wMk M3 (mb + 1 + 3) 20 10) mb 3 (some (mb + 1 + 3))) = M4 at hcb ⊢
  refine r_aload_n C 0 dX12_init_36 rfl rfl ?_
  refine r_bipush C (v := nI 10) dX12_init_37 (by decide) ?_
  refine r_newarr C (q := mb + 1 + 4) 0 (by decide) rfl ac_int (by decide) (hgb) (hcb.2.1 _ (Nat.le_refl _)) (hcb.2.2.1) (Nat.le_of_ble_eq_true rfl) (Nat.le_of_ble_eq_true rfl) dX12_init_39 ?_
  refine r_putRF C fl_X12_22 (hini rfl) (fun r h => by cases h; rfl) rfl rfl rfl (show mK (wMk M4 (mb + 1 + 4) 20 10) mb = 14 + 1 from va_up_ne _ _ (by omega) |>.trans hcb.1) dX12_init_41 ?_
  have hcb := hcb.st 4 20 10 rfl
  clear hgb
  have hgb : gB G ≤ mb + 1 + 5 := by omega
  generalize (wR (wMk M4 (mb + 1 + 4) 20 10) mb 4 (some (mb + 1 + 4))) = M5 at hcb ⊢
  refine r_aload_n C 0 dX12_init_44 rfl rfl ?_
  refine r_bipush C (v := nI 10) dX12_init_45 (by decide) ?_
  refine r_newarr C (q := mb + 1 + 5) 0 (by decide) rfl ac_int (by decide) (hgb) (hcb.2.1 _ (Nat.le_refl _)) (hcb.2.2.1) (Nat.le_of_ble_eq_true rfl) (Nat.le_of_ble_eq_true rfl) dX12_init_47 ?_
  refine r_putRF C fl_X12_25 (hini rfl) (fun r h => by cases h; rfl) rfl rfl rfl (show mK (wMk M5 (mb + 1 + 5) 20 10) mb = 14 + 1 from va_up_ne _ _ (by omega) |>.trans hcb.1) dX12_init_49 ?_
  have hcb := hcb.st 5 20 10 rfl
  clear hgb
  have hgb : gB G ≤ mb + 1 + 6 := by omega
  generalize (wR (wMk M5 (mb + 1 + 5) 20 10) mb 5 (some (mb + 1 + 5))) = M6 at hcb ⊢
  refine r_aload_n C 0 dX12_init_52 rfl rfl ?_
  refine r_sipush C (v := nI 7200) dX12_init_53 (by decide) ?_
  refine r_newarr C (q := mb + 1 + 6) 0 (by decide) rfl ac_int (by decide) (hgb) (hcb.2.1 _ (Nat.le_refl _)) (hcb.2.2.1) (Nat.le_of_ble_eq_true rfl) (Nat.le_of_ble_eq_true rfl) dX12_init_56 ?_
  refine r_putRF C fl_X12_28 (hini rfl) (fun r h => by cases h; rfl) rfl rfl rfl (show mK (wMk M6 (mb + 1 + 6) 20 7200) mb = 14 + 1 from va_up_ne _ _ (by omega) |>.trans hcb.1) dX12_init_58 ?_
  have hcb := hcb.st 6 20 7200 rfl
  clear hgb
  have hgb : gB G ≤ mb + 1 + 7 := by omega
  generalize (wR (wMk M6 (mb + 1 + 6) 20 7200) mb 6 (some (mb + 1 + 6))) = M7 at hcb ⊢
  refine r_aload_n C 0 dX12_init_61 rfl rfl ?_
  refine r_sipush C (v := nI 7200) dX12_init_62 (by decide) ?_
  refine r_newarr C (q := mb + 1 + 7) 0 (by decide) rfl ac_int (by decide) (hgb) (hcb.2.1 _ (Nat.le_refl _)) (hcb.2.2.1) (Nat.le_of_ble_eq_true rfl) (Nat.le_of_ble_eq_true rfl) dX12_init_65 ?_
  refine r_putRF C fl_X12_31 (hini rfl) (fun r h => by cases h; rfl) rfl rfl rfl (show mK (wMk M7 (mb + 1 + 7) 20 7200) mb = 14 + 1 from va_up_ne _ _ (by omega) |>.trans hcb.1) dX12_init_67 ?_
  have hcb := hcb.st 7 20 7200 rfl
  clear hgb
  have hgb : gB G ≤ mb + 1 + 8 := by omega
  generalize (wR (wMk M7 (mb + 1 + 7) 20 7200) mb 7 (some (mb + 1 + 7))) = M8 at hcb ⊢
  refine r_aload_n C 0 dX12_init_70 rfl rfl ?_
  refine r_sipush C (v := nI 7200) dX12_init_71 (by decide) ?_
  refine r_newarr C (q := mb + 1 + 8) 0 (by decide) rfl ac_int (by decide) (hgb) (hcb.2.1 _ (Nat.le_refl _)) (hcb.2.2.1) (Nat.le_of_ble_eq_true rfl) (Nat.le_of_ble_eq_true rfl) dX12_init_74 ?_
  refine r_putRF C fl_X12_34 (hini rfl) (fun r h => by cases h; rfl) rfl rfl rfl (show mK (wMk M8 (mb + 1 + 8) 20 7200) mb = 14 + 1 from va_up_ne _ _ (by omega) |>.trans hcb.1) dX12_init_76 ?_
  have hcb := hcb.st 8 20 7200 rfl
  clear hgb
  have hgb : gB G ≤ mb + 1 + 9 := by omega
  generalize (wR (wMk M8 (mb + 1 + 8) 20 7200) mb 8 (some (mb + 1 + 8))) = M9 at hcb ⊢
  refine r_aload_n C 0 dX12_init_79 rfl rfl ?_
  refine r_bipush C (v := nI 40) dX12_init_80 (by decide) ?_
  refine r_newarr C (q := mb + 1 + 9) 0 (by decide) rfl ac_int (by decide) (hgb) (hcb.2.1 _ (Nat.le_refl _)) (hcb.2.2.1) (Nat.le_of_ble_eq_true rfl) (Nat.le_of_ble_eq_true rfl) dX12_init_82 ?_
  refine r_putRF C fl_X12_37 (hini rfl) (fun r h => by cases h; rfl) rfl rfl rfl (show mK (wMk M9 (mb + 1 + 9) 20 40) mb = 14 + 1 from va_up_ne _ _ (by omega) |>.trans hcb.1) dX12_init_84 ?_
  have hcb := hcb.st 10 20 40 rfl
  clear hgb
  have hgb : gB G ≤ mb + 1 + 10 := by omega
  generalize (wR (wMk M9 (mb + 1 + 9) 20 40) mb 10 (some (mb + 1 + 9))) = M10 at hcb ⊢
  refine r_aload_n C 0 dX12_init_87 rfl rfl ?_
  refine r_bipush C (v := nI 40) dX12_init_88 (by decide) ?_
  refine r_newarr C (q := mb + 1 + 10) 0 (by decide) rfl ac_int (by decide) (hgb) (hcb.2.1 _ (Nat.le_refl _)) (hcb.2.2.1) (Nat.le_of_ble_eq_true rfl) (Nat.le_of_ble_eq_true rfl) dX12_init_90 ?_
  refine r_putRF C fl_X12_40 (hini rfl) (fun r h => by cases h; rfl) rfl rfl rfl (show mK (wMk M10 (mb + 1 + 10) 20 40) mb = 14 + 1 from va_up_ne _ _ (by omega) |>.trans hcb.1) dX12_init_92 ?_
  have hcb := hcb.st 11 20 40 rfl
  clear hgb
  have hgb : gB G ≤ mb + 1 + 11 := by omega
  generalize (wR (wMk M10 (mb + 1 + 10) 20 40) mb 11 (some (mb + 1 + 10))) = M11 at hcb ⊢
  refine r_aload_n C 0 dX12_init_95 rfl rfl ?_
  refine r_bipush C (v := nI 40) dX12_init_96 (by decide) ?_
  refine r_newarr C (q := mb + 1 + 11) 0 (by decide) rfl ac_int (by decide) (hgb) (hcb.2.1 _ (Nat.le_refl _)) (hcb.2.2.1) (Nat.le_of_ble_eq_true rfl) (Nat.le_of_ble_eq_true rfl) dX12_init_98 ?_
  refine r_putRF C fl_X12_43 (hini rfl) (fun r h => by cases h; rfl) rfl rfl rfl (show mK (wMk M11 (mb + 1 + 11) 20 40) mb = 14 + 1 from va_up_ne _ _ (by omega) |>.trans hcb.1) dX12_init_100 ?_
  have hcb := hcb.st 12 20 40 rfl
  clear hgb
  have hgb : gB G ≤ mb + 1 + 12 := by omega
  generalize (wR (wMk M11 (mb + 1 + 11) 20 40) mb 12 (some (mb + 1 + 11))) = M12 at hcb ⊢
  refine r_aload_n C 0 dX12_init_103 rfl rfl ?_
  refine r_bipush C (v := nI 30) dX12_init_104 (by decide) ?_
  refine r_newarr C (q := mb + 1 + 12) 0 (by decide) rfl ac_int (by decide) (hgb) (hcb.2.1 _ (Nat.le_refl _)) (hcb.2.2.1) (Nat.le_of_ble_eq_true rfl) (Nat.le_of_ble_eq_true rfl) dX12_init_106 ?_
  refine r_putRF C fl_X12_46 (hini rfl) (fun r h => by cases h; rfl) rfl rfl rfl (show mK (wMk M12 (mb + 1 + 12) 20 30) mb = 14 + 1 from va_up_ne _ _ (by omega) |>.trans hcb.1) dX12_init_108 ?_
  have hcb := hcb.st 14 20 30 rfl
  clear hgb
  have hgb : gB G ≤ mb + 1 + 13 := by omega
  generalize (wR (wMk M12 (mb + 1 + 12) 20 30) mb 14 (some (mb + 1 + 12))) = M13 at hcb ⊢
  refine r_aload_n C 0 dX12_init_111 rfl rfl ?_
  refine r_bipush C (v := nI 30) dX12_init_112 (by decide) ?_
  refine r_newarr C (q := mb + 1 + 13) 0 (by decide) rfl ac_int (by decide) (hgb) (hcb.2.1 _ (Nat.le_refl _)) (hcb.2.2.1) (Nat.le_of_ble_eq_true rfl) (Nat.le_of_ble_eq_true rfl) dX12_init_114 ?_
  refine r_putRF C fl_X12_49 (hini rfl) (fun r h => by cases h; rfl) rfl rfl rfl (show mK (wMk M13 (mb + 1 + 13) 20 30) mb = 14 + 1 from va_up_ne _ _ (by omega) |>.trans hcb.1) dX12_init_116 ?_
  have hcb := hcb.st 15 20 30 rfl
  clear hgb
  have hgb : gB G ≤ mb + 1 + 14 := by omega
  generalize (wR (wMk M13 (mb + 1 + 13) 20 30) mb 15 (some (mb + 1 + 13))) = M14 at hcb ⊢
  refine r_aload_n C 0 dX12_init_119 rfl rfl ?_
  refine r_bipush C (v := nI 30) dX12_init_120 (by decide) ?_
  refine r_newarr C (q := mb + 1 + 14) 0 (by decide) rfl ac_int (by decide) (hgb) (hcb.2.1 _ (Nat.le_refl _)) (hcb.2.2.1) (Nat.le_of_ble_eq_true rfl) (Nat.le_of_ble_eq_true rfl) dX12_init_122 ?_
  refine r_putRF C fl_X12_52 (hini rfl) (fun r h => by cases h; rfl) rfl rfl rfl (show mK (wMk M14 (mb + 1 + 14) 20 30) mb = 14 + 1 from va_up_ne _ _ (by omega) |>.trans hcb.1) dX12_init_124 ?_
  have hcb := hcb.st 16 20 30 rfl
  clear hgb
  have hgb : gB G ≤ mb + 1 + 15 := by omega
  generalize (wR (wMk M14 (mb + 1 + 14) 20 30) mb 16 (some (mb + 1 + 14))) = M15 at hcb ⊢
  refine r_aload_n C 0 dX12_init_127 rfl rfl ?_
  refine r_bipush C (v := nI 70) dX12_init_128 (by decide) ?_
  refine r_newarr C (q := mb + 1 + 15) 0 (by decide) rfl ac_int (by decide) (hgb) (hcb.2.1 _ (Nat.le_refl _)) (hcb.2.2.1) (Nat.le_of_ble_eq_true rfl) (Nat.le_of_ble_eq_true rfl) dX12_init_130 ?_
  refine r_putRF C fl_X12_55 (hini rfl) (fun r h => by cases h; rfl) rfl rfl rfl (show mK (wMk M15 (mb + 1 + 15) 20 70) mb = 14 + 1 from va_up_ne _ _ (by omega) |>.trans hcb.1) dX12_init_132 ?_
  have hcb := hcb.st 22 20 70 rfl
  clear hgb
  have hgb : gB G ≤ mb + 1 + 16 := by omega
  generalize (wR (wMk M15 (mb + 1 + 15) 20 70) mb 22 (some (mb + 1 + 15))) = M16 at hcb ⊢
  refine r_aload_n C 0 dX12_init_135 rfl rfl ?_
  refine r_bipush C (v := nI 70) dX12_init_136 (by decide) ?_
  refine r_newarr C (q := mb + 1 + 16) 0 (by decide) rfl ac_int (by decide) (hgb) (hcb.2.1 _ (Nat.le_refl _)) (hcb.2.2.1) (Nat.le_of_ble_eq_true rfl) (Nat.le_of_ble_eq_true rfl) dX12_init_138 ?_
  refine r_putRF C fl_X12_58 (hini rfl) (fun r h => by cases h; rfl) rfl rfl rfl (show mK (wMk M16 (mb + 1 + 16) 20 70) mb = 14 + 1 from va_up_ne _ _ (by omega) |>.trans hcb.1) dX12_init_140 ?_
  have hcb := hcb.st 23 20 70 rfl
  clear hgb
  have hgb : gB G ≤ mb + 1 + 17 := by omega
  generalize (wR (wMk M16 (mb + 1 + 16) 20 70) mb 23 (some (mb + 1 + 16))) = M17 at hcb ⊢
  refine r_aload_n C 0 dX12_init_143 rfl rfl ?_
  refine r_bipush C (v := nI 7) dX12_init_144 (by decide) ?_
  refine r_newarr C (q := mb + 1 + 17) 0 (by decide) rfl ac_int (by decide) (hgb) (hcb.2.1 _ (Nat.le_refl _)) (hcb.2.2.1) (Nat.le_of_ble_eq_true rfl) (Nat.le_of_ble_eq_true rfl) dX12_init_146 ?_
  refine r_putRF C fl_X12_61 (hini rfl) (fun r h => by cases h; rfl) rfl rfl rfl (show mK (wMk M17 (mb + 1 + 17) 20 7) mb = 14 + 1 from va_up_ne _ _ (by omega) |>.trans hcb.1) dX12_init_148 ?_
  have hcb := hcb.st 24 20 7 rfl
  clear hgb
  have hgb : gB G ≤ mb + 1 + 18 := by omega
  generalize (wR (wMk M17 (mb + 1 + 17) 20 7) mb 24 (some (mb + 1 + 17))) = M18 at hcb ⊢
  refine r_aload_n C 0 dX12_init_151 rfl rfl ?_
  refine r_bipush C (v := nI 6) dX12_init_152 (by decide) ?_
  refine r_newarr C (q := mb + 1 + 18) 0 (by decide) rfl ac_int (by decide) (hgb) (hcb.2.1 _ (Nat.le_refl _)) (hcb.2.2.1) (Nat.le_of_ble_eq_true rfl) (Nat.le_of_ble_eq_true rfl) dX12_init_154 ?_
  refine r_putRF C fl_X12_64 (hini rfl) (fun r h => by cases h; rfl) rfl rfl rfl (show mK (wMk M18 (mb + 1 + 18) 20 6) mb = 14 + 1 from va_up_ne _ _ (by omega) |>.trans hcb.1) dX12_init_156 ?_
  have hcb := hcb.st 25 20 6 rfl
  clear hgb
  have hgb : gB G ≤ mb + 1 + 19 := by omega
  generalize (wR (wMk M18 (mb + 1 + 18) 20 6) mb 25 (some (mb + 1 + 18))) = M19 at hcb ⊢
  refine r_aload_n C 0 dX12_init_159 rfl rfl ?_
  refine r_bipush C (v := nI 6) dX12_init_160 (by decide) ?_
  refine r_newarr C (q := mb + 1 + 19) 0 (by decide) rfl ac_int (by decide) (hgb) (hcb.2.1 _ (Nat.le_refl _)) (hcb.2.2.1) (Nat.le_of_ble_eq_true rfl) (Nat.le_of_ble_eq_true rfl) dX12_init_162 ?_
  refine r_putRF C fl_X12_67 (hini rfl) (fun r h => by cases h; rfl) rfl rfl rfl (show mK (wMk M19 (mb + 1 + 19) 20 6) mb = 14 + 1 from va_up_ne _ _ (by omega) |>.trans hcb.1) dX12_init_164 ?_
  have hcb := hcb.st 27 20 6 rfl
  clear hgb
  have hgb : gB G ≤ mb + 1 + 20 := by omega
  generalize (wR (wMk M19 (mb + 1 + 19) 20 6) mb 27 (some (mb + 1 + 19))) = M20 at hcb ⊢
  refine r_aload_n C 0 dX12_init_167 rfl rfl ?_
  refine r_bipush C (v := nI 10) dX12_init_168 (by decide) ?_
  refine r_newarr C (q := mb + 1 + 20) 1 (by decide) rfl ac_long (by decide) (hgb) (hcb.2.1 _ (Nat.le_refl _)) (hcb.2.2.1) (Nat.le_of_ble_eq_true rfl) (Nat.le_of_ble_eq_true rfl) dX12_init_170 ?_
  refine r_putRF C fl_X12_70 (hini rfl) (fun r h => by cases h; rfl) rfl rfl rfl (show mK (wMk M20 (mb + 1 + 20) 21 10) mb = 14 + 1 from va_up_ne _ _ (by omega) |>.trans hcb.1) dX12_init_172 ?_
  have hcb := hcb.st 28 21 10 rfl
  clear hgb
  have hgb : gB G ≤ mb + 1 + 21 := by omega
  generalize (wR (wMk M20 (mb + 1 + 20) 21 10) mb 28 (some (mb + 1 + 20))) = M21 at hcb ⊢
  refine r_aload_n C 0 dX12_init_175 rfl rfl ?_
  refine r_bipush C (v := nI 6) dX12_init_176 (by decide) ?_
  refine r_newarr C (q := mb + 1 + 21) 1 (by decide) rfl ac_long (by decide) (hgb) (hcb.2.1 _ (Nat.le_refl _)) (hcb.2.2.1) (Nat.le_of_ble_eq_true rfl) (Nat.le_of_ble_eq_true rfl) dX12_init_178 ?_
  refine r_putRF C fl_X12_74 (hini rfl) (fun r h => by cases h; rfl) rfl rfl rfl (show mK (wMk M21 (mb + 1 + 21) 21 6) mb = 14 + 1 from va_up_ne _ _ (by omega) |>.trans hcb.1) dX12_init_180 ?_
  have hcb := hcb.st 29 21 6 rfl
  clear hgb
  have hgb : gB G ≤ mb + 1 + 22 := by omega
  generalize (wR (wMk M21 (mb + 1 + 21) 21 6) mb 29 (some (mb + 1 + 21))) = M22 at hcb ⊢
  refine r_aload_n C 0 dX12_init_183 rfl rfl ?_
  refine r_sipush C (v := nI 432) dX12_init_184 (by decide) ?_
  refine r_newarr C (q := mb + 1 + 22) 0 (by decide) rfl ac_int (by decide) (hgb) (hcb.2.1 _ (Nat.le_refl _)) (hcb.2.2.1) (Nat.le_of_ble_eq_true rfl) (Nat.le_of_ble_eq_true rfl) dX12_init_187 ?_
  refine r_putRF C fl_X12_77 (hini rfl) (fun r h => by cases h; rfl) rfl rfl rfl (show mK (wMk M22 (mb + 1 + 22) 20 432) mb = 14 + 1 from va_up_ne _ _ (by omega) |>.trans hcb.1) dX12_init_189 ?_
  have hcb := hcb.st 30 20 432 rfl
  clear hgb
  have hgb : gB G ≤ mb + 1 + 23 := by omega
  generalize (wR (wMk M22 (mb + 1 + 22) 20 432) mb 30 (some (mb + 1 + 22))) = M23 at hcb ⊢
  refine r_aload_n C 0 dX12_init_192 rfl rfl ?_
  refine r_bipush C (v := nI 72) dX12_init_193 (by decide) ?_
  refine r_newarr C (q := mb + 1 + 23) 0 (by decide) rfl ac_int (by decide) (hgb) (hcb.2.1 _ (Nat.le_refl _)) (hcb.2.2.1) (Nat.le_of_ble_eq_true rfl) (Nat.le_of_ble_eq_true rfl) dX12_init_195 ?_
  refine r_putRF C fl_X12_80 (hini rfl) (fun r h => by cases h; rfl) rfl rfl rfl (show mK (wMk M23 (mb + 1 + 23) 20 72) mb = 14 + 1 from va_up_ne _ _ (by omega) |>.trans hcb.1) dX12_init_197 ?_
  have hcb := hcb.st 31 20 72 rfl
  clear hgb
  have hgb : gB G ≤ mb + 1 + 24 := by omega
  generalize (wR (wMk M23 (mb + 1 + 23) 20 72) mb 31 (some (mb + 1 + 23))) = M24 at hcb ⊢
  refine r_aload_n C 0 dX12_init_200 rfl rfl ?_
  refine r_bipush C (v := nI 72) dX12_init_201 (by decide) ?_
  refine r_newarr C (q := mb + 1 + 24) 0 (by decide) rfl ac_int (by decide) (hgb) (hcb.2.1 _ (Nat.le_refl _)) (hcb.2.2.1) (Nat.le_of_ble_eq_true rfl) (Nat.le_of_ble_eq_true rfl) dX12_init_203 ?_
  refine r_putRF C fl_X12_83 (hini rfl) (fun r h => by cases h; rfl) rfl rfl rfl (show mK (wMk M24 (mb + 1 + 24) 20 72) mb = 14 + 1 from va_up_ne _ _ (by omega) |>.trans hcb.1) dX12_init_205 ?_
  have hcb := hcb.st 32 20 72 rfl
  clear hgb
  have hgb : gB G ≤ mb + 1 + 25 := by omega
  generalize (wR (wMk M24 (mb + 1 + 24) 20 72) mb 32 (some (mb + 1 + 24))) = M25 at hcb ⊢
  refine r_aload_n C 0 dX12_init_208 rfl rfl ?_
  refine r_sipush C (v := nI 144) dX12_init_209 (by decide) ?_
  refine r_newarr C (q := mb + 1 + 25) 0 (by decide) rfl ac_int (by decide) (hgb) (hcb.2.1 _ (Nat.le_refl _)) (hcb.2.2.1) (Nat.le_of_ble_eq_true rfl) (Nat.le_of_ble_eq_true rfl) dX12_init_212 ?_
  refine r_putRF C fl_X12_86 (hini rfl) (fun r h => by cases h; rfl) rfl rfl rfl (show mK (wMk M25 (mb + 1 + 25) 20 144) mb = 14 + 1 from va_up_ne _ _ (by omega) |>.trans hcb.1) dX12_init_214 ?_
  have hcb := hcb.st 33 20 144 rfl
  clear hgb
  have hgb : gB G ≤ mb + 1 + 26 := by omega
  generalize (wR (wMk M25 (mb + 1 + 25) 20 144) mb 33 (some (mb + 1 + 25))) = M26 at hcb ⊢
  refine r_aload_n C 0 dX12_init_217 rfl rfl ?_
  refine r_sipush C (v := nI 576) dX12_init_218 (by decide) ?_
  refine r_newarr C (q := mb + 1 + 26) 0 (by decide) rfl ac_int (by decide) (hgb) (hcb.2.1 _ (Nat.le_refl _)) (hcb.2.2.1) (Nat.le_of_ble_eq_true rfl) (Nat.le_of_ble_eq_true rfl) dX12_init_221 ?_
  refine r_putRF C fl_X12_89 (hini rfl) (fun r h => by cases h; rfl) rfl rfl rfl (show mK (wMk M26 (mb + 1 + 26) 20 576) mb = 14 + 1 from va_up_ne _ _ (by omega) |>.trans hcb.1) dX12_init_223 ?_
  have hcb := hcb.st 34 20 576 rfl
  clear hgb
  have hgb : gB G ≤ mb + 1 + 27 := by omega
  generalize (wR (wMk M26 (mb + 1 + 26) 20 576) mb 34 (some (mb + 1 + 26))) = M27 at hcb ⊢
  refine r_aload_n C 0 dX12_init_226 rfl rfl ?_
  refine r_sipush C (v := nI 576) dX12_init_227 (by decide) ?_
  refine r_newarr C (q := mb + 1 + 27) 0 (by decide) rfl ac_int (by decide) (hgb) (hcb.2.1 _ (Nat.le_refl _)) (hcb.2.2.1) (Nat.le_of_ble_eq_true rfl) (Nat.le_of_ble_eq_true rfl) dX12_init_230 ?_
  refine r_putRF C fl_X12_92 (hini rfl) (fun r h => by cases h; rfl) rfl rfl rfl (show mK (wMk M27 (mb + 1 + 27) 20 576) mb = 14 + 1 from va_up_ne _ _ (by omega) |>.trans hcb.1) dX12_init_232 ?_
  have hcb := hcb.st 35 20 576 rfl
  clear hgb
  have hgb : gB G ≤ mb + 1 + 28 := by omega
  generalize (wR (wMk M27 (mb + 1 + 27) 20 576) mb 35 (some (mb + 1 + 27))) = M28 at hcb ⊢
  refine r_aload_n C 0 dX12_init_235 rfl rfl ?_
  refine r_sipush C (v := nI 144) dX12_init_236 (by decide) ?_
  refine r_newarr C (q := mb + 1 + 28) 0 (by decide) rfl ac_int (by decide) (hgb) (hcb.2.1 _ (Nat.le_refl _)) (hcb.2.2.1) (Nat.le_of_ble_eq_true rfl) (Nat.le_of_ble_eq_true rfl) dX12_init_239 ?_
  refine r_putRF C fl_X12_95 (hini rfl) (fun r h => by cases h; rfl) rfl rfl rfl (show mK (wMk M28 (mb + 1 + 28) 20 144) mb = 14 + 1 from va_up_ne _ _ (by omega) |>.trans hcb.1) dX12_init_241 ?_
  have hcb := hcb.st 36 20 144 rfl
  clear hgb
  have hgb : gB G ≤ mb + 1 + 29 := by omega
  generalize (wR (wMk M28 (mb + 1 + 28) 20 144) mb 36 (some (mb + 1 + 28))) = M29 at hcb ⊢
  refine r_aload_n C 0 dX12_init_244 rfl rfl ?_
  refine r_sipush C (v := nI 144) dX12_init_245 (by decide) ?_
  refine r_newarr C (q := mb + 1 + 29) 0 (by decide) rfl ac_int (by decide) (hgb) (hcb.2.1 _ (Nat.le_refl _)) (hcb.2.2.1) (Nat.le_of_ble_eq_true rfl) (Nat.le_of_ble_eq_true rfl) dX12_init_248 ?_
  refine r_putRF C fl_X12_98 (hini rfl) (fun r h => by cases h; rfl) rfl rfl rfl (show mK (wMk M29 (mb + 1 + 29) 20 144) mb = 14 + 1 from va_up_ne _ _ (by omega) |>.trans hcb.1) dX12_init_250 ?_
  have hcb := hcb.st 37 20 144 rfl
  clear hgb
  have hgb : gB G ≤ mb + 1 + 30 := by omega
  generalize (wR (wMk M29 (mb + 1 + 29) 20 144) mb 37 (some (mb + 1 + 29))) = M30 at hcb ⊢
  refine r_aload_n C 0 dX12_init_253 rfl rfl ?_
  refine r_bipush C (v := nI 6) dX12_init_254 (by decide) ?_
  refine r_newarr C (q := mb + 1 + 30) 0 (by decide) rfl ac_int (by decide) (hgb) (hcb.2.1 _ (Nat.le_refl _)) (hcb.2.2.1) (Nat.le_of_ble_eq_true rfl) (Nat.le_of_ble_eq_true rfl) dX12_init_256 ?_
  refine r_putRF C fl_X12_101 (hini rfl) (fun r h => by cases h; rfl) rfl rfl rfl (show mK (wMk M30 (mb + 1 + 30) 20 6) mb = 14 + 1 from va_up_ne _ _ (by omega) |>.trans hcb.1) dX12_init_258 ?_
  have hcb := hcb.st 38 20 6 rfl
  clear hgb
  have hgb : gB G ≤ mb + 1 + 31 := by omega
  generalize (wR (wMk M30 (mb + 1 + 30) 20 6) mb 38 (some (mb + 1 + 30))) = M31 at hcb ⊢
  refine r_aload_n C 0 dX12_init_261 rfl rfl ?_
  refine r_bipush C (v := nI 6) dX12_init_262 (by decide) ?_
  refine r_newarr C (q := mb + 1 + 31) 0 (by decide) rfl ac_int (by decide) (hgb) (hcb.2.1 _ (Nat.le_refl _)) (hcb.2.2.1) (Nat.le_of_ble_eq_true rfl) (Nat.le_of_ble_eq_true rfl) dX12_init_264 ?_
  refine r_putRF C fl_X12_104 (hini rfl) (fun r h => by cases h; rfl) rfl rfl rfl (show mK (wMk M31 (mb + 1 + 31) 20 6) mb = 14 + 1 from va_up_ne _ _ (by omega) |>.trans hcb.1) dX12_init_266 ?_
  have hcb := hcb.st 39 20 6 rfl
  clear hgb
  have hgb : gB G ≤ mb + 1 + 32 := by omega
  generalize (wR (wMk M31 (mb + 1 + 31) 20 6) mb 39 (some (mb + 1 + 31))) = M32 at hcb ⊢
  refine r_aload_n C 0 dX12_init_269 rfl rfl ?_
  refine r_bipush C (v := nI 6) dX12_init_270 (by decide) ?_
  refine r_newarr C (q := mb + 1 + 32) 0 (by decide) rfl ac_int (by decide) (hgb) (hcb.2.1 _ (Nat.le_refl _)) (hcb.2.2.1) (Nat.le_of_ble_eq_true rfl) (Nat.le_of_ble_eq_true rfl) dX12_init_272 ?_
  refine r_putRF C fl_X12_107 (hini rfl) (fun r h => by cases h; rfl) rfl rfl rfl (show mK (wMk M32 (mb + 1 + 32) 20 6) mb = 14 + 1 from va_up_ne _ _ (by omega) |>.trans hcb.1) dX12_init_274 ?_
  have hcb := hcb.st 40 20 6 rfl
  clear hgb
  have hgb : gB G ≤ mb + 1 + 33 := by omega
  generalize (wR (wMk M32 (mb + 1 + 32) 20 6) mb 40 (some (mb + 1 + 32))) = M33 at hcb ⊢
  refine r_aload_n C 0 dX12_init_277 rfl rfl ?_
  refine r_bipush C (v := nI 6) dX12_init_278 (by decide) ?_
  refine r_newarr C (q := mb + 1 + 33) 0 (by decide) rfl ac_int (by decide) (hgb) (hcb.2.1 _ (Nat.le_refl _)) (hcb.2.2.1) (Nat.le_of_ble_eq_true rfl) (Nat.le_of_ble_eq_true rfl) dX12_init_280 ?_
  refine r_putRF C fl_X12_110 (hini rfl) (fun r h => by cases h; rfl) rfl rfl rfl (show mK (wMk M33 (mb + 1 + 33) 20 6) mb = 14 + 1 from va_up_ne _ _ (by omega) |>.trans hcb.1) dX12_init_282 ?_
  have hcb := hcb.st 41 20 6 rfl
  clear hgb
  have hgb : gB G ≤ mb + 1 + 34 := by omega
  generalize (wR (wMk M33 (mb + 1 + 33) 20 6) mb 41 (some (mb + 1 + 33))) = M34 at hcb ⊢
  refine r_aload_n C 0 dX12_init_285 rfl rfl ?_
  refine r_bipush C (v := nI 6) dX12_init_286 (by decide) ?_
  refine r_newarr C (q := mb + 1 + 34) 0 (by decide) rfl ac_int (by decide) (hgb) (hcb.2.1 _ (Nat.le_refl _)) (hcb.2.2.1) (Nat.le_of_ble_eq_true rfl) (Nat.le_of_ble_eq_true rfl) dX12_init_288 ?_
  refine r_putRF C fl_X12_113 (hini rfl) (fun r h => by cases h; rfl) rfl rfl rfl (show mK (wMk M34 (mb + 1 + 34) 20 6) mb = 14 + 1 from va_up_ne _ _ (by omega) |>.trans hcb.1) dX12_init_290 ?_
  have hcb := hcb.st 42 20 6 rfl
  clear hgb
  have hgb : gB G ≤ mb + 1 + 35 := by omega
  generalize (wR (wMk M34 (mb + 1 + 34) 20 6) mb 42 (some (mb + 1 + 34))) = M35 at hcb ⊢
  refine r_aload_n C 0 dX12_init_293 rfl rfl ?_
  refine r_bipush C (v := nI 6) dX12_init_294 (by decide) ?_
  refine r_newarr C (q := mb + 1 + 35) 0 (by decide) rfl ac_int (by decide) (hgb) (hcb.2.1 _ (Nat.le_refl _)) (hcb.2.2.1) (Nat.le_of_ble_eq_true rfl) (Nat.le_of_ble_eq_true rfl) dX12_init_296 ?_
  refine r_putRF C fl_X12_116 (hini rfl) (fun r h => by cases h; rfl) rfl rfl rfl (show mK (wMk M35 (mb + 1 + 35) 20 6) mb = 14 + 1 from va_up_ne _ _ (by omega) |>.trans hcb.1) dX12_init_298 ?_
  have hcb := hcb.st 43 20 6 rfl
  clear hgb
  have hgb : gB G ≤ mb + 1 + 36 := by omega
  generalize (wR (wMk M35 (mb + 1 + 35) 20 6) mb 43 (some (mb + 1 + 35))) = M36 at hcb ⊢
  refine r_aload_n C 0 dX12_init_301 rfl rfl ?_
  refine r_sipush C (v := nI 144) dX12_init_302 (by decide) ?_
  refine r_newarr C (q := mb + 1 + 36) 1 (by decide) rfl ac_long (by decide) (hgb) (hcb.2.1 _ (Nat.le_refl _)) (hcb.2.2.1) (Nat.le_of_ble_eq_true rfl) (Nat.le_of_ble_eq_true rfl) dX12_init_305 ?_
  refine r_putRF C fl_X12_119 (hini rfl) (fun r h => by cases h; rfl) rfl rfl rfl (show mK (wMk M36 (mb + 1 + 36) 21 144) mb = 14 + 1 from va_up_ne _ _ (by omega) |>.trans hcb.1) dX12_init_307 ?_
  have hcb := hcb.st 45 21 144 rfl
  clear hgb
  have hgb : gB G ≤ mb + 1 + 37 := by omega
  generalize (wR (wMk M36 (mb + 1 + 36) 21 144) mb 45 (some (mb + 1 + 36))) = M37 at hcb ⊢
  refine r_aload_n C 0 dX12_init_310 rfl rfl ?_
  refine r_sipush C (v := nI 144) dX12_init_311 (by decide) ?_
  refine r_newarr C (q := mb + 1 + 37) 0 (by decide) rfl ac_int (by decide) (hgb) (hcb.2.1 _ (Nat.le_refl _)) (hcb.2.2.1) (Nat.le_of_ble_eq_true rfl) (Nat.le_of_ble_eq_true rfl) dX12_init_314 ?_
  refine r_putRF C fl_X12_122 (hini rfl) (fun r h => by cases h; rfl) rfl rfl rfl (show mK (wMk M37 (mb + 1 + 37) 20 144) mb = 14 + 1 from va_up_ne _ _ (by omega) |>.trans hcb.1) dX12_init_316 ?_
  have hcb := hcb.st 47 20 144 rfl
  clear hgb
  have hgb : gB G ≤ mb + 1 + 38 := by omega
  generalize (wR (wMk M37 (mb + 1 + 37) 20 144) mb 47 (some (mb + 1 + 37))) = M38 at hcb ⊢
  refine r_aload_n C 0 dX12_init_319 rfl rfl ?_
  refine r_sipush C (v := nI 144) dX12_init_320 (by decide) ?_
  refine r_newarr C (q := mb + 1 + 38) 0 (by decide) rfl ac_int (by decide) (hgb) (hcb.2.1 _ (Nat.le_refl _)) (hcb.2.2.1) (Nat.le_of_ble_eq_true rfl) (Nat.le_of_ble_eq_true rfl) dX12_init_323 ?_
  refine r_putRF C fl_X12_125 (hini rfl) (fun r h => by cases h; rfl) rfl rfl rfl (show mK (wMk M38 (mb + 1 + 38) 20 144) mb = 14 + 1 from va_up_ne _ _ (by omega) |>.trans hcb.1) dX12_init_325 ?_
  have hcb := hcb.st 48 20 144 rfl
  clear hgb
  have hgb : gB G ≤ mb + 1 + 39 := by omega
  generalize (wR (wMk M38 (mb + 1 + 38) 20 144) mb 48 (some (mb + 1 + 38))) = M39 at hcb ⊢
  refine r_aload_n C 0 dX12_init_328 rfl rfl ?_
  refine r_sipush C (v := nI 144) dX12_init_329 (by decide) ?_
  refine r_newarr C (q := mb + 1 + 39) 1 (by decide) rfl ac_long (by decide) (hgb) (hcb.2.1 _ (Nat.le_refl _)) (hcb.2.2.1) (Nat.le_of_ble_eq_true rfl) (Nat.le_of_ble_eq_true rfl) dX12_init_332 ?_
  refine r_putRF C fl_X12_128 (hini rfl) (fun r h => by cases h; rfl) rfl rfl rfl (show mK (wMk M39 (mb + 1 + 39) 21 144) mb = 14 + 1 from va_up_ne _ _ (by omega) |>.trans hcb.1) dX12_init_334 ?_
  have hcb := hcb.st 49 21 144 rfl
  clear hgb
  have hgb : gB G ≤ mb + 1 + 40 := by omega
  generalize (wR (wMk M39 (mb + 1 + 39) 21 144) mb 49 (some (mb + 1 + 39))) = M40 at hcb ⊢
  refine r_aload_n C 0 dX12_init_337 rfl rfl ?_
  refine r_sipush C (v := nI 144) dX12_init_338 (by decide) ?_
  refine r_newarr C (q := mb + 1 + 40) 0 (by decide) rfl ac_int (by decide) (hgb) (hcb.2.1 _ (Nat.le_refl _)) (hcb.2.2.1) (Nat.le_of_ble_eq_true rfl) (Nat.le_of_ble_eq_true rfl) dX12_init_341 ?_
  refine r_putRF C fl_X12_131 (hini rfl) (fun r h => by cases h; rfl) rfl rfl rfl (show mK (wMk M40 (mb + 1 + 40) 20 144) mb = 14 + 1 from va_up_ne _ _ (by omega) |>.trans hcb.1) dX12_init_343 ?_
  have hcb := hcb.st 50 20 144 rfl
  clear hgb
  have hgb : gB G ≤ mb + 1 + 41 := by omega
  generalize (wR (wMk M40 (mb + 1 + 40) 20 144) mb 50 (some (mb + 1 + 40))) = M41 at hcb ⊢
  refine r_aload_n C 0 dX12_init_346 rfl rfl ?_
  refine r_bipush C (v := nI 72) dX12_init_347 (by decide) ?_
  refine r_newarr C (q := mb + 1 + 41) 1 (by decide) rfl ac_long (by decide) (hgb) (hcb.2.1 _ (Nat.le_refl _)) (hcb.2.2.1) (Nat.le_of_ble_eq_true rfl) (Nat.le_of_ble_eq_true rfl) dX12_init_349 ?_
  refine r_putRF C fl_X12_134 (hini rfl) (fun r h => by cases h; rfl) rfl rfl rfl (show mK (wMk M41 (mb + 1 + 41) 21 72) mb = 14 + 1 from va_up_ne _ _ (by omega) |>.trans hcb.1) dX12_init_351 ?_
  have hcb := hcb.st 52 21 72 rfl
  clear hgb
  have hgb : gB G ≤ mb + 1 + 42 := by omega
  generalize (wR (wMk M41 (mb + 1 + 41) 21 72) mb 52 (some (mb + 1 + 41))) = M42 at hcb ⊢
  refine r_aload_n C 0 dX12_init_354 rfl rfl ?_
  refine r_bipush C (v := nI 72) dX12_init_355 (by decide) ?_
  refine r_newarr C (q := mb + 1 + 42) 1 (by decide) rfl ac_long (by decide) (hgb) (hcb.2.1 _ (Nat.le_refl _)) (hcb.2.2.1) (Nat.le_of_ble_eq_true rfl) (Nat.le_of_ble_eq_true rfl) dX12_init_357 ?_
  refine r_putRF C fl_X12_137 (hini rfl) (fun r h => by cases h; rfl) rfl rfl rfl (show mK (wMk M42 (mb + 1 + 42) 21 72) mb = 14 + 1 from va_up_ne _ _ (by omega) |>.trans hcb.1) dX12_init_359 ?_
  have hcb := hcb.st 53 21 72 rfl
  clear hgb
  have hgb : gB G ≤ mb + 1 + 43 := by omega
  generalize (wR (wMk M42 (mb + 1 + 42) 21 72) mb 53 (some (mb + 1 + 42))) = M43 at hcb ⊢
  refine r_aload_n C 0 dX12_init_362 rfl rfl ?_
  refine r_bipush C (v := nI 72) dX12_init_363 (by decide) ?_
  refine r_newarr C (q := mb + 1 + 43) 0 (by decide) rfl ac_int (by decide) (hgb) (hcb.2.1 _ (Nat.le_refl _)) (hcb.2.2.1) (Nat.le_of_ble_eq_true rfl) (Nat.le_of_ble_eq_true rfl) dX12_init_365 ?_
  refine r_putRF C fl_X12_140 (hini rfl) (fun r h => by cases h; rfl) rfl rfl rfl (show mK (wMk M43 (mb + 1 + 43) 20 72) mb = 14 + 1 from va_up_ne _ _ (by omega) |>.trans hcb.1) dX12_init_367 ?_
  have hcb := hcb.st 54 20 72 rfl
  clear hgb
  have hgb : gB G ≤ mb + 1 + 44 := by omega
  generalize (wR (wMk M43 (mb + 1 + 43) 20 72) mb 54 (some (mb + 1 + 43))) = M44 at hcb ⊢
  refine r_aload_n C 0 dX12_init_370 rfl rfl ?_
  refine r_bipush C (v := nI 72) dX12_init_371 (by decide) ?_
  refine r_newarr C (q := mb + 1 + 44) 1 (by decide) rfl ac_long (by decide) (hgb) (hcb.2.1 _ (Nat.le_refl _)) (hcb.2.2.1) (Nat.le_of_ble_eq_true rfl) (Nat.le_of_ble_eq_true rfl) dX12_init_373 ?_
  refine r_putRF C fl_X12_143 (hini rfl) (fun r h => by cases h; rfl) rfl rfl rfl (show mK (wMk M44 (mb + 1 + 44) 21 72) mb = 14 + 1 from va_up_ne _ _ (by omega) |>.trans hcb.1) dX12_init_375 ?_
  have hcb := hcb.st 55 21 72 rfl
  clear hgb
  have hgb : gB G ≤ mb + 1 + 45 := by omega
  generalize (wR (wMk M44 (mb + 1 + 44) 21 72) mb 55 (some (mb + 1 + 44))) = M45 at hcb ⊢
  refine r_aload_n C 0 dX12_init_378 rfl rfl ?_
  refine r_bipush C (v := nI 72) dX12_init_379 (by decide) ?_
  refine r_newarr C (q := mb + 1 + 45) 1 (by decide) rfl ac_long (by decide) (hgb) (hcb.2.1 _ (Nat.le_refl _)) (hcb.2.2.1) (Nat.le_of_ble_eq_true rfl) (Nat.le_of_ble_eq_true rfl) dX12_init_381 ?_
  refine r_putRF C fl_X12_146 (hini rfl) (fun r h => by cases h; rfl) rfl rfl rfl (show mK (wMk M45 (mb + 1 + 45) 21 72) mb = 14 + 1 from va_up_ne _ _ (by omega) |>.trans hcb.1) dX12_init_383 ?_
  have hcb := hcb.st 56 21 72 rfl
  clear hgb
  have hgb : gB G ≤ mb + 1 + 46 := by omega
  generalize (wR (wMk M45 (mb + 1 + 45) 21 72) mb 56 (some (mb + 1 + 45))) = M46 at hcb ⊢
  refine r_aload_n C 0 dX12_init_386 rfl rfl ?_
  refine r_bipush C (v := nI 72) dX12_init_387 (by decide) ?_
  refine r_newarr C (q := mb + 1 + 46) 1 (by decide) rfl ac_long (by decide) (hgb) (hcb.2.1 _ (Nat.le_refl _)) (hcb.2.2.1) (Nat.le_of_ble_eq_true rfl) (Nat.le_of_ble_eq_true rfl) dX12_init_389 ?_
  refine r_putRF C fl_X12_149 (hini rfl) (fun r h => by cases h; rfl) rfl rfl rfl (show mK (wMk M46 (mb + 1 + 46) 21 72) mb = 14 + 1 from va_up_ne _ _ (by omega) |>.trans hcb.1) dX12_init_391 ?_
  have hcb := hcb.st 57 21 72 rfl
  clear hgb
  have hgb : gB G ≤ mb + 1 + 47 := by omega
  generalize (wR (wMk M46 (mb + 1 + 46) 21 72) mb 57 (some (mb + 1 + 46))) = M47 at hcb ⊢
  refine r_aload_n C 0 dX12_init_394 rfl rfl ?_
  refine r_bipush C (v := nI 72) dX12_init_395 (by decide) ?_
  refine r_newarr C (q := mb + 1 + 47) 1 (by decide) rfl ac_long (by decide) (hgb) (hcb.2.1 _ (Nat.le_refl _)) (hcb.2.2.1) (Nat.le_of_ble_eq_true rfl) (Nat.le_of_ble_eq_true rfl) dX12_init_397 ?_
  refine r_putRF C fl_X12_152 (hini rfl) (fun r h => by cases h; rfl) rfl rfl rfl (show mK (wMk M47 (mb + 1 + 47) 21 72) mb = 14 + 1 from va_up_ne _ _ (by omega) |>.trans hcb.1) dX12_init_399 ?_
  have hcb := hcb.st 58 21 72 rfl
  clear hgb
  have hgb : gB G ≤ mb + 1 + 48 := by omega
  generalize (wR (wMk M47 (mb + 1 + 47) 21 72) mb 58 (some (mb + 1 + 47))) = M48 at hcb ⊢
  refine r_aload_n C 0 dX12_init_402 rfl rfl ?_
  refine r_bipush C (v := nI 72) dX12_init_403 (by decide) ?_
  refine r_newarr C (q := mb + 1 + 48) 1 (by decide) rfl ac_long (by decide) (hgb) (hcb.2.1 _ (Nat.le_refl _)) (hcb.2.2.1) (Nat.le_of_ble_eq_true rfl) (Nat.le_of_ble_eq_true rfl) dX12_init_405 ?_
  refine r_putRF C fl_X12_155 (hini rfl) (fun r h => by cases h; rfl) rfl rfl rfl (show mK (wMk M48 (mb + 1 + 48) 21 72) mb = 14 + 1 from va_up_ne _ _ (by omega) |>.trans hcb.1) dX12_init_407 ?_
  have hcb := hcb.st 59 21 72 rfl
  clear hgb
  have hgb : gB G ≤ mb + 1 + 49 := by omega
  generalize (wR (wMk M48 (mb + 1 + 48) 21 72) mb 59 (some (mb + 1 + 48))) = M49 at hcb ⊢
  refine r_aload_n C 0 dX12_init_410 rfl rfl ?_
  refine r_bipush C (v := nI 24) dX12_init_411 (by decide) ?_
  refine r_newarr C (q := mb + 1 + 49) 1 (by decide) rfl ac_long (by decide) (hgb) (hcb.2.1 _ (Nat.le_refl _)) (hcb.2.2.1) (Nat.le_of_ble_eq_true rfl) (Nat.le_of_ble_eq_true rfl) dX12_init_413 ?_
  refine r_putRF C fl_X12_158 (hini rfl) (fun r h => by cases h; rfl) rfl rfl rfl (show mK (wMk M49 (mb + 1 + 49) 21 24) mb = 14 + 1 from va_up_ne _ _ (by omega) |>.trans hcb.1) dX12_init_415 ?_
  have hcb := hcb.st 60 21 24 rfl
  clear hgb
  have hgb : gB G ≤ mb + 1 + 50 := by omega
  generalize (wR (wMk M49 (mb + 1 + 49) 21 24) mb 60 (some (mb + 1 + 49))) = M50 at hcb ⊢
  refine r_aload_n C 0 dX12_init_418 rfl rfl ?_
  refine r_bipush C (v := nI 24) dX12_init_419 (by decide) ?_
  refine r_newarr C (q := mb + 1 + 50) 1 (by decide) rfl ac_long (by decide) (hgb) (hcb.2.1 _ (Nat.le_refl _)) (hcb.2.2.1) (Nat.le_of_ble_eq_true rfl) (Nat.le_of_ble_eq_true rfl) dX12_init_421 ?_
  refine r_putRF C fl_X12_161 (hini rfl) (fun r h => by cases h; rfl) rfl rfl rfl (show mK (wMk M50 (mb + 1 + 50) 21 24) mb = 14 + 1 from va_up_ne _ _ (by omega) |>.trans hcb.1) dX12_init_423 ?_
  have hcb := hcb.st 61 21 24 rfl
  clear hgb
  have hgb : gB G ≤ mb + 1 + 51 := by omega
  generalize (wR (wMk M50 (mb + 1 + 50) 21 24) mb 61 (some (mb + 1 + 50))) = M51 at hcb ⊢
  refine r_aload_n C 0 dX12_init_426 rfl rfl ?_
  refine r_bipush C (v := nI 24) dX12_init_427 (by decide) ?_
  refine r_newarr C (q := mb + 1 + 51) 1 (by decide) rfl ac_long (by decide) (hgb) (hcb.2.1 _ (Nat.le_refl _)) (hcb.2.2.1) (Nat.le_of_ble_eq_true rfl) (Nat.le_of_ble_eq_true rfl) dX12_init_429 ?_
  refine r_putRF C fl_X12_164 (hini rfl) (fun r h => by cases h; rfl) rfl rfl rfl (show mK (wMk M51 (mb + 1 + 51) 21 24) mb = 14 + 1 from va_up_ne _ _ (by omega) |>.trans hcb.1) dX12_init_431 ?_
  have hcb := hcb.st 62 21 24 rfl
  clear hgb
  have hgb : gB G ≤ mb + 1 + 52 := by omega
  generalize (wR (wMk M51 (mb + 1 + 51) 21 24) mb 62 (some (mb + 1 + 51))) = M52 at hcb ⊢
  refine r_aload_n C 0 dX12_init_434 rfl rfl ?_
  refine r_bipush C (v := nI 24) dX12_init_435 (by decide) ?_
  refine r_newarr C (q := mb + 1 + 52) 1 (by decide) rfl ac_long (by decide) (hgb) (hcb.2.1 _ (Nat.le_refl _)) (hcb.2.2.1) (Nat.le_of_ble_eq_true rfl) (Nat.le_of_ble_eq_true rfl) dX12_init_437 ?_
  refine r_putRF C fl_X12_167 (hini rfl) (fun r h => by cases h; rfl) rfl rfl rfl (show mK (wMk M52 (mb + 1 + 52) 21 24) mb = 14 + 1 from va_up_ne _ _ (by omega) |>.trans hcb.1) dX12_init_439 ?_
  have hcb := hcb.st 63 21 24 rfl
  clear hgb
  have hgb : gB G ≤ mb + 1 + 53 := by omega
  generalize (wR (wMk M52 (mb + 1 + 52) 21 24) mb 63 (some (mb + 1 + 52))) = M53 at hcb ⊢
  refine r_aload_n C 0 dX12_init_442 rfl rfl ?_
  refine r_bipush C (v := nI 24) dX12_init_443 (by decide) ?_
  refine r_newarr C (q := mb + 1 + 53) 1 (by decide) rfl ac_long (by decide) (hgb) (hcb.2.1 _ (Nat.le_refl _)) (hcb.2.2.1) (Nat.le_of_ble_eq_true rfl) (Nat.le_of_ble_eq_true rfl) dX12_init_445 ?_
  refine r_putRF C fl_X12_170 (hini rfl) (fun r h => by cases h; rfl) rfl rfl rfl (show mK (wMk M53 (mb + 1 + 53) 21 24) mb = 14 + 1 from va_up_ne _ _ (by omega) |>.trans hcb.1) dX12_init_447 ?_
  have hcb := hcb.st 64 21 24 rfl
  clear hgb
  have hgb : gB G ≤ mb + 1 + 54 := by omega
  generalize (wR (wMk M53 (mb + 1 + 53) 21 24) mb 64 (some (mb + 1 + 53))) = M54 at hcb ⊢
  refine r_aload_n C 0 dX12_init_450 rfl rfl ?_
  refine r_sipush C (v := nI 144) dX12_init_451 (by decide) ?_
  refine r_newarr C (q := mb + 1 + 54) 1 (by decide) rfl ac_long (by decide) (hgb) (hcb.2.1 _ (Nat.le_refl _)) (hcb.2.2.1) (Nat.le_of_ble_eq_true rfl) (Nat.le_of_ble_eq_true rfl) dX12_init_454 ?_
  refine r_putRF C fl_X12_173 (hini rfl) (fun r h => by cases h; rfl) rfl rfl rfl (show mK (wMk M54 (mb + 1 + 54) 21 144) mb = 14 + 1 from va_up_ne _ _ (by omega) |>.trans hcb.1) dX12_init_456 ?_
  have hcb := hcb.st 65 21 144 rfl
  clear hgb
  have hgb : gB G ≤ mb + 1 + 55 := by omega
  generalize (wR (wMk M54 (mb + 1 + 54) 21 144) mb 65 (some (mb + 1 + 54))) = M55 at hcb ⊢
  refine r_aload_n C 0 dX12_init_459 rfl rfl ?_
  refine r_sipush C (v := nI 144) dX12_init_460 (by decide) ?_
  refine r_newarr C (q := mb + 1 + 55) 1 (by decide) rfl ac_long (by decide) (hgb) (hcb.2.1 _ (Nat.le_refl _)) (hcb.2.2.1) (Nat.le_of_ble_eq_true rfl) (Nat.le_of_ble_eq_true rfl) dX12_init_463 ?_
  refine r_putRF C fl_X12_176 (hini rfl) (fun r h => by cases h; rfl) rfl rfl rfl (show mK (wMk M55 (mb + 1 + 55) 21 144) mb = 14 + 1 from va_up_ne _ _ (by omega) |>.trans hcb.1) dX12_init_465 ?_
  have hcb := hcb.st 66 21 144 rfl
  clear hgb
  have hgb : gB G ≤ mb + 1 + 56 := by omega
  generalize (wR (wMk M55 (mb + 1 + 55) 21 144) mb 66 (some (mb + 1 + 55))) = M56 at hcb ⊢
  refine r_aload_n C 0 dX12_init_468 rfl rfl ?_
  refine r_sipush C (v := nI 432) dX12_init_469 (by decide) ?_
  refine r_newarr C (q := mb + 1 + 56) 1 (by decide) rfl ac_long (by decide) (hgb) (hcb.2.1 _ (Nat.le_refl _)) (hcb.2.2.1) (Nat.le_of_ble_eq_true rfl) (Nat.le_of_ble_eq_true rfl) dX12_init_472 ?_
  refine r_putRF C fl_X12_179 (hini rfl) (fun r h => by cases h; rfl) rfl rfl rfl (show mK (wMk M56 (mb + 1 + 56) 21 432) mb = 14 + 1 from va_up_ne _ _ (by omega) |>.trans hcb.1) dX12_init_474 ?_
  have hcb := hcb.st 68 21 432 rfl
  clear hgb
  have hgb : gB G ≤ mb + 1 + 57 := by omega
  generalize (wR (wMk M56 (mb + 1 + 56) 21 432) mb 68 (some (mb + 1 + 56))) = M57 at hcb ⊢
  refine r_aload_n C 0 dX12_init_477 rfl rfl ?_
  refine r_sipush C (v := nI 432) dX12_init_478 (by decide) ?_
  refine r_newarr C (q := mb + 1 + 57) 1 (by decide) rfl ac_long (by decide) (hgb) (hcb.2.1 _ (Nat.le_refl _)) (hcb.2.2.1) (Nat.le_of_ble_eq_true rfl) (Nat.le_of_ble_eq_true rfl) dX12_init_481 ?_
  refine r_putRF C fl_X12_182 (hini rfl) (fun r h => by cases h; rfl) rfl rfl rfl (show mK (wMk M57 (mb + 1 + 57) 21 432) mb = 14 + 1 from va_up_ne _ _ (by omega) |>.trans hcb.1) dX12_init_483 ?_
  have hcb := hcb.st 69 21 432 rfl
  clear hgb
  have hgb : gB G ≤ mb + 1 + 58 := by omega
  generalize (wR (wMk M57 (mb + 1 + 57) 21 432) mb 69 (some (mb + 1 + 57))) = M58 at hcb ⊢
  have hm : MOK (mK M58) (mN M58) (mR M58) mb := ⟨hcb.1, fun k h1 h2 => hcb.2.2.2.1 k h1 h2 (mrk_le k)⟩
  have hm0 := hm
  have hz0 : ∀ k, k < 70 → mI M58 (ma mb k) = (fun _ => 0) ∧ mL M58 (ma mb k) = (fun _ => 0) := fun k hk => hcb.2.2.2.2.1 _ (by unfold ma; omega) (by have := mrk_le k; unfold ma; omega)
  refine r_iconst C (v := nI 0) dX12_init_486 (by decide) ?_
  refine r_istore_n C (lo' := [(1, .int (nI 0)), (0, .ref mb)]) dX12_init_487 rfl (by decide) rfl ?_
  have lp488 : ∀ (k488 : Nat) (N1 : Mem) (k : Nat) (hk : k ≤ 7200) (hf1 : fOut [6] mb M58 N1) (hl1 : mL N1 = mL M58) (h6 : ∀ i, mI N1 (ma mb 6) i = if i < k then -1 else 0), 7201 - k < k488 → V pp l ee ({ frames := 1, cells := 58, slots := 26809, locals := 12 } : Room) ss mm ar bw mt cd G (MQ bw (Ke G (fun v M' => v = none ∧ MOK (mK M') (mN M') (mR M') mb ∧ (∀ k, k < 70 → if mkd.getD k 0 = 0 then mI M' mb k = 0 else ∀ i, mI M' (ma mb k) i = τ0.1 k i ∧ mL M' (ma mb k) i = 0) ∧ (∀ a, mb + 59 ≤ a → mK M' a = 0) ∧ mN M' (mb + 59) = 1 ∧ ∀ a, a < mb → mK M' a = mK M a ∧ mN M' a = mN M a ∧ mI M' a = mI M a ∧ mL M' a = mL M a ∧ mR M' a = mR M a)) ar ss 58 26809 (gA G)) 2 N1 58 26809 488 [(0, .ref mb), (1, .int (nI k))] [] := by
    intro k488
    induction k488 with
    | zero => intro N1 k hk hf1 hl1 h6 hz488; exact absurd hz488 (Nat.not_lt_zero _)
    | succ k488 ih488 =>
      intro N1 k hk hf1 hl1 h6 hz488
      have hm := hf1.ok hm0
      refine r_iload_n C 1 dX12_init_488 rfl rfl ?_
      refine r_sipush C (v := nI 7200) dX12_init_489 (by decide) ?_
      refine r_icmp_geN C (t := 508) (by omega) (by omega) dX12_init_492 (by decide) (fun c492 => ?_) (fun c492 => ?_)
      · skip
        have ek : k = 7200 := by omega
        subst ek
        refine r_iconst C (v := nI 0) dX12_init_508 (by decide) ?_
        refine r_istore_n C (lo' := [(1, .int (nI 0)), (0, .ref mb)]) dX12_init_509 rfl (by decide) rfl ?_
        have lp510 : ∀ (k510 : Nat) (N2 : Mem) (k : Nat) (hk : k ≤ 72) (hf2 : fOut [31] mb N1 N2) (hl2 : mL N2 = mL N1) (h31 : ∀ i, mI N2 (ma mb 31) i = if i < k then -1 else 0), 73 - k < k510 → V pp l ee ({ frames := 1, cells := 58, slots := 26809, locals := 12 } : Room) ss mm ar bw mt cd G (MQ bw (Ke G (fun v M' => v = none ∧ MOK (mK M') (mN M') (mR M') mb ∧ (∀ k, k < 70 → if mkd.getD k 0 = 0 then mI M' mb k = 0 else ∀ i, mI M' (ma mb k) i = τ0.1 k i ∧ mL M' (ma mb k) i = 0) ∧ (∀ a, mb + 59 ≤ a → mK M' a = 0) ∧ mN M' (mb + 59) = 1 ∧ ∀ a, a < mb → mK M' a = mK M a ∧ mN M' a = mN M a ∧ mI M' a = mI M a ∧ mL M' a = mL M a ∧ mR M' a = mR M a)) ar ss 58 26809 (gA G)) 2 N2 58 26809 510 [(0, .ref mb), (1, .int (nI k))] [] := by
          intro k510
          induction k510 with
          | zero => intro N2 k hk hf2 hl2 h31 hz510; exact absurd hz510 (Nat.not_lt_zero _)
          | succ k510 ih510 =>
            intro N2 k hk hf2 hl2 h31 hz510
            have hm := hf2.ok (hf1.ok hm0)
            refine r_iload_n C 1 dX12_init_510 rfl rfl ?_
            refine r_bipush C (v := nI 72) dX12_init_511 (by decide) ?_
            refine r_icmp_geN C (t := 529) (by omega) (by omega) dX12_init_513 (by decide) (fun c513 => ?_) (fun c513 => ?_)
            · skip
              have ek : k = 72 := by omega
              subst ek
              refine r_iconst C (v := nI 0) dX12_init_529 (by decide) ?_
              refine r_istore_n C (lo' := [(1, .int (nI 0)), (0, .ref mb)]) dX12_init_530 rfl (by decide) rfl ?_
              have lp531 : ∀ (k531 : Nat) (N3 : Mem) (k : Nat) (hk : k ≤ 144) (hf3 : fOut [36, 37] mb N2 N3) (hl3 : mL N3 = mL N2) (h36 : ∀ i, mI N3 (ma mb 36) i = if i < k then -1 else 0) (h37 : ∀ i, mI N3 (ma mb 37) i = if i < k then -1 else 0), 145 - k < k531 → V pp l ee ({ frames := 1, cells := 58, slots := 26809, locals := 12 } : Room) ss mm ar bw mt cd G (MQ bw (Ke G (fun v M' => v = none ∧ MOK (mK M') (mN M') (mR M') mb ∧ (∀ k, k < 70 → if mkd.getD k 0 = 0 then mI M' mb k = 0 else ∀ i, mI M' (ma mb k) i = τ0.1 k i ∧ mL M' (ma mb k) i = 0) ∧ (∀ a, mb + 59 ≤ a → mK M' a = 0) ∧ mN M' (mb + 59) = 1 ∧ ∀ a, a < mb → mK M' a = mK M a ∧ mN M' a = mN M a ∧ mI M' a = mI M a ∧ mL M' a = mL M a ∧ mR M' a = mR M a)) ar ss 58 26809 (gA G)) 2 N3 58 26809 531 [(0, .ref mb), (1, .int (nI k))] [] := by
                intro k531
                induction k531 with
                | zero => intro N3 k hk hf3 hl3 h36 h37 hz531; exact absurd hz531 (Nat.not_lt_zero _)
                | succ k531 ih531 =>
                  intro N3 k hk hf3 hl3 h36 h37 hz531
                  have hm := hf3.ok (hf2.ok (hf1.ok hm0))
                  refine r_iload_n C 1 dX12_init_531 rfl rfl ?_
                  refine r_sipush C (v := nI 144) dX12_init_532 (by decide) ?_
                  refine r_icmp_geN C (t := 558) (by omega) (by omega) dX12_init_535 (by decide) (fun c535 => ?_) (fun c535 => ?_)
                  · skip
                    have ek : k = 144 := by omega
                    subst ek
                    exact r_vret C hr (init_end hf1 hf2 hf3 hl1 hl2 hl3 h6 h31 h36 h37 hcb hz0 hm0) (by first | exact Nat.zero_le _ | decide) (by first | exact Nat.zero_le _ | decide) dX12_init_558
                  · skip
                    refine r_aload_n C 0 dX12_init_538 rfl rfl ?_
                    refine r_getR C (b := (ma mb 36)) fl_X12_95 rfl hm.k (hm.r 36 rfl) dX12_init_539 ?_
                    refine r_iload_n C 1 dX12_init_542 rfl rfl ?_
                    refine r_iconst C (v := (-1)) dX12_init_543 (by decide) ?_
                    refine r_iastoreN C (hm.i 36 20 rfl) (hm.n 36 144 rfl) (by omega) (by omega) dX12_init_544 ?_
                    refine r_aload_n C 0 dX12_init_545 rfl rfl ?_
                    refine r_getR C (b := (ma mb 37)) fl_X12_98 rfl hm.k (hm.r 37 rfl) dX12_init_546 ?_
                    refine r_iload_n C 1 dX12_init_549 rfl rfl ?_
                    refine r_iconst C (v := (-1)) dX12_init_550 (by decide) ?_
                    refine r_iastoreN C (hm.i 37 20 rfl) (hm.n 37 144 rfl) (by omega) (by omega) dX12_init_551 ?_
                    refine r_iinc C (v := nI (k + 1)) (lo' := [(1, .int (nI (k + 1))), (0, .ref mb)]) 1 dX12_init_552 rfl (nI_addI k 1) (by decide) rfl ?_
                    refine r_goto C (t := 531) dX12_init_555 (by decide) ?_
                    refine V.sub [1, 0] (lo' := [(0, .ref mb), (1, .int (nI (k + 1)))]) rfl ?_
                    exact ih531 (wI (wI N3 (ma mb 36) k (-1)) (ma mb 37) k (-1)) (k + 1) (by omega) ((hf3.setI 36 _ _ rfl).setI 37 _ _ rfl) hl3 (fun i => (congrFun (up2_row _ _ (ma_ne rfl)) i).trans (by by_cases z : i = k; (rw [z, if_pos (Nat.lt_succ_self _)]; exact up2_same _ _ _ _); (refine (up2_k _ _ z).trans ((h36 i).trans (if_cg ⟨fun q => by omega, fun q => by omega⟩))))) (fun i => by by_cases z : i = k; (rw [z, if_pos (Nat.lt_succ_self _)]; exact up2_same _ _ _ _); (refine (up2_k _ _ z).trans ((congrFun (up2_row _ _ (ma_ne rfl)) i).trans ((h37 i).trans (if_cg ⟨fun q => by omega, fun q => by omega⟩))))) (by omega)
              refine V.sub [1, 0] (lo' := [(0, .ref mb), (1, .int (nI 0))]) rfl ?_
              exact lp531 _ N2 0 (Nat.zero_le _) (fOut.rf _ _ _) rfl (fun i => by rw [hf2.i 36 rfl, hf1.i 36 rfl, (hz0 36 (by decide)).1]; rfl) (fun i => by rw [hf2.i 37 rfl, hf1.i 37 rfl, (hz0 37 (by decide)).1]; rfl) (Nat.lt_succ_self _)
            · skip
              refine r_aload_n C 0 dX12_init_516 rfl rfl ?_
              refine r_getR C (b := (ma mb 31)) fl_X12_80 rfl hm.k (hm.r 31 rfl) dX12_init_517 ?_
              refine r_iload_n C 1 dX12_init_520 rfl rfl ?_
              refine r_iconst C (v := (-1)) dX12_init_521 (by decide) ?_
              refine r_iastoreN C (hm.i 31 20 rfl) (hm.n 31 72 rfl) (by omega) (by omega) dX12_init_522 ?_
              refine r_iinc C (v := nI (k + 1)) (lo' := [(1, .int (nI (k + 1))), (0, .ref mb)]) 1 dX12_init_523 rfl (nI_addI k 1) (by decide) rfl ?_
              refine r_goto C (t := 510) dX12_init_526 (by decide) ?_
              refine V.sub [1, 0] (lo' := [(0, .ref mb), (1, .int (nI (k + 1)))]) rfl ?_
              exact ih510 (wI N2 (ma mb 31) k (-1)) (k + 1) (by omega) (hf2.setI 31 _ _ rfl) hl2 (fun i => by by_cases z : i = k; (rw [z, if_pos (Nat.lt_succ_self _)]; exact up2_same _ _ _ _); (refine (up2_k _ _ z).trans ((h31 i).trans (if_cg ⟨fun q => by omega, fun q => by omega⟩)))) (by omega)
        refine V.sub [1, 0] (lo' := [(0, .ref mb), (1, .int (nI 0))]) rfl ?_
        exact lp510 _ N1 0 (Nat.zero_le _) (fOut.rf _ _ _) rfl (fun i => by rw [hf1.i 31 rfl, (hz0 31 (by decide)).1]; rfl) (Nat.lt_succ_self _)
      · skip
        refine r_aload_n C 0 dX12_init_495 rfl rfl ?_
        refine r_getR C (b := (ma mb 6)) fl_X12_28 rfl hm.k (hm.r 6 rfl) dX12_init_496 ?_
        refine r_iload_n C 1 dX12_init_499 rfl rfl ?_
        refine r_iconst C (v := (-1)) dX12_init_500 (by decide) ?_
        refine r_iastoreN C (hm.i 6 20 rfl) (hm.n 6 7200 rfl) (by omega) (by omega) dX12_init_501 ?_
        refine r_iinc C (v := nI (k + 1)) (lo' := [(1, .int (nI (k + 1))), (0, .ref mb)]) 1 dX12_init_502 rfl (nI_addI k 1) (by decide) rfl ?_
        refine r_goto C (t := 488) dX12_init_505 (by decide) ?_
        refine V.sub [1, 0] (lo' := [(0, .ref mb), (1, .int (nI (k + 1)))]) rfl ?_
        exact ih488 (wI N1 (ma mb 6) k (-1)) (k + 1) (by omega) (hf1.setI 6 _ _ rfl) hl1 (fun i => by by_cases z : i = k; (rw [z, if_pos (Nat.lt_succ_self _)]; exact up2_same _ _ _ _); (refine (up2_k _ _ z).trans ((h6 i).trans (if_cg ⟨fun q => by omega, fun q => by omega⟩)))) (by omega)
  refine V.sub [1, 0] (lo' := [(0, .ref mb), (1, .int (nI 0))]) rfl ?_
  exact lp488 _ M58 0 (Nat.zero_le _) (fOut.rf _ _ _) rfl (fun i => by rw [(hz0 6 (by decide)).1]; rfl) (Nat.lt_succ_self _)
