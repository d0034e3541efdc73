/-! THE REFERENCE: its beginning -/
def CB (M0 M : Mem) (mb j : Nat) : Prop := mK M mb = 15 ∧ (∀ a, mb + 1 + j ≤ a → mK M a = 0) ∧ mN M (mb + 1 + j) = 1 ∧ (∀ k, k < 70 → mkd.getD k 0 ≠ 0 → mrk.getD k 0 ≤ j → mR M mb k = some (ma mb k) ∧ mK M (ma mb k) = mkd.getD k 0 ∧ mN M (ma mb k) = mln.getD k 0) ∧
  (∀ a, mb ≤ a → a ≤ mb + j → mI M a = (fun _ => 0) ∧ mL M a = (fun _ => 0)) ∧ ∀ a, a < mb → mK M a = mK M0 a ∧ mN M a = mN M0 a ∧ mI M a = mI M0 a ∧ mL M a = mL M0 a ∧ mR M a = mR M0 a
theorem mrk_inj : ∀ k k', k < 70 → k' < 70 → mkd.getD k 0 ≠ 0 → mkd.getD k' 0 ≠ 0 → mrk.getD k 0 = mrk.getD k' 0 → k = k' := by
  intro k k' h1 h2 h3 h4 h5
  have key : (List.range 70).all (fun k => (List.range 70).all (fun k' => (mkd.getD k 0 == 0) || ((mkd.getD k' 0 == 0) || ((mrk.getD k 0 != mrk.getD k' 0) || (k == k'))))) = true := by decide +kernel
  have k2 := List.all_eq_true.mp (List.all_eq_true.mp key k (List.mem_range.mpr h1)) k' (List.mem_range.mpr h2)
  simp only [Bool.or_eq_true, beq_iff_eq, bne_iff_ne] at k2
  rcases k2 with k2 | k2 | k2 | k2
  · exact absurd k2 h3
  · exact absurd k2 h4
  · exact absurd h5 k2
  · exact k2
theorem mrk_pos : ∀ k, k < 70 → mkd.getD k 0 ≠ 0 → 1 ≤ mrk.getD k 0 := by
  intro k h1 h2
  have key : (List.range 70).all (fun k => (mkd.getD k 0 == 0) || decide (1 ≤ mrk.getD k 0)) = true := by decide +kernel
  have k2 := List.all_eq_true.mp key k (List.mem_range.mpr h1)
  simp only [Bool.or_eq_true, beq_iff_eq, decide_eq_true_eq] at k2
  exact k2.resolve_left h2
theorem CB.mk {M : Mem} {mb : Nat} (hk : mK M mb = 15) (hz : ∀ a, mb + 1 ≤ a → mK M a = 0) (hn : mN M (mb + 1) = 1) (h0 : mI M mb = (fun _ => 0) ∧ mL M mb = (fun _ => 0)) : CB M M mb 0 :=
  ⟨hk, hz, hn, fun k h1 h2 h3 => by have := mrk_pos k h1 h2; omega, fun a h1 h2 => by rw [show a = mb by omega]; exact h0, fun a _ => ⟨rfl, rfl, rfl, rfl, rfl⟩⟩
theorem CB.st {M0 M : Mem} {mb j : Nat} (h : CB M0 M mb j) (k κ n : Nat) (hk : (decide (k < 70) && ((mkd.getD k 0 == κ) && ((κ != 0) && ((mrk.getD k 0 == j + 1) && (mln.getD k 0 == n))))) = true) : CB M0 (wR (wMk M (mb + 1 + j) κ n) mb k (some (mb + 1 + j))) mb (j + 1) := by
  simp only [Bool.and_eq_true, decide_eq_true_eq, beq_iff_eq, bne_iff_ne] at hk
  obtain ⟨h7, hd, hκ, hr, hl⟩ := hk
  obtain ⟨a1, a2, a3, a4, a5, a6⟩ := h
  have hK : ∀ a, a ≠ mb + 1 + j → mK (wR (wMk M (mb + 1 + j) κ n) mb k (some (mb + 1 + j))) a = mK M a := fun a ha => va_up_ne _ _ ha
  have hN : ∀ a, a ≠ mb + 1 + j → a ≠ mb + 1 + j + 1 → mN (wR (wMk M (mb + 1 + j) κ n) mb k (some (mb + 1 + j))) a = mN M a := fun a h1 h2 => (va_up_ne _ _ h2).trans (va_up_ne _ _ h1)
  have hI : ∀ a, a ≠ mb + 1 + j → mI (wR (wMk M (mb + 1 + j) κ n) mb k (some (mb + 1 + j))) a = mI M a := fun a ha => va_up_ne _ _ ha
  have hL : ∀ a, a ≠ mb + 1 + j → mL (wR (wMk M (mb + 1 + j) κ n) mb k (some (mb + 1 + j))) a = mL M a := fun a ha => va_up_ne _ _ ha
  refine ⟨(hK mb (by omega)).trans a1, fun a ha => (hK a (by omega)).trans (a2 a (by omega)), va_up_self _ _ _, fun i hi1 hi2 hi3 => ?_, fun a h1 h2 => ?_, fun a ha => ?_⟩
  · by_cases e : i = k
    · subst e
      have em : ma mb i = mb + 1 + j := by unfold ma; omega
      rw [em, hd, hl]
      exact ⟨up2_same _ _ _ _, va_up_self _ _ _, (va_up_ne _ _ (by omega)).trans (va_up_self _ _ _)⟩
    · have hne : mrk.getD i 0 ≠ j + 1 := fun z => e (mrk_inj i k hi1 h7 hi2 (by rw [hd]; exact hκ) (by rw [z, hr]))
      obtain ⟨b1, b2, b3⟩ := a4 i hi1 hi2 (by omega)
      have em : ma mb i ≠ mb + 1 + j ∧ ma mb i ≠ mb + 1 + j + 1 := by unfold ma; omega
      refine ⟨?_, (hK _ em.1).trans b2, (hN _ em.1 em.2).trans b3⟩
      rw [← b1]
      exact (up2_k _ _ e).trans (congrFun (va_up_ne _ _ (by omega)) i)
  · by_cases e : a = mb + 1 + j
    · subst e; exact ⟨va_up_self _ _ _, va_up_self _ _ _⟩
    · rw [hI a e, hL a e]; exact a5 a h1 (by omega)
  · obtain ⟨b1, b2, b3, b4, b5⟩ := a6 a ha
    refine ⟨(hK a (by omega)).trans b1, (hN a (by omega) (by omega)).trans b2, (hI a (by omega)).trans b3, (hL a (by omega)).trans b4, ?_⟩
    rw [← b5]
    exact (up2_row _ _ (by omega)).trans (va_up_ne _ _ (by omega))
def τ0 : Mu := (fun k x => if (k = 6 ∧ x < 7200) ∨ (k = 31 ∧ x < 72) ∨ ((k = 36 ∨ k = 37) ∧ x < 144) then -1 else 0, fun _ _ => 0)

