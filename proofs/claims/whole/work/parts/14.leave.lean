/-! THE REFERENCE: who works, where, what leave is taken -/
theorem if_cg {α : Type} {b c : Prop} [Decidable b] [Decidable c] {x y : α} (h : b ↔ c) : (if b then x else y) = (if c then x else y) := by
  by_cases z : b
  · rw [if_pos z, if_pos (h.mp z)]
  · rw [if_neg z, if_neg (fun q => z (h.mpr q))]
theorem iI_dec (x : Int32) : x + (-1) = x - nI 1 := by rw [show nI 1 = (1 : Int32) from rfl, Int32.sub_eq_add_neg]
theorem nI_pred1 (j : Nat) : nI (j + 1) - nI 1 = nI j := nI_pred j
theorem nI_lt0 {k : Nat} (hk : k < 2 ^ 30) : (nI k - nI 1 < 0) ↔ k = 0 := by
  rw [Int32.lt_iff_toInt_lt, pk_sub_toInt hk (by decide), Int32.toInt_zero]; omega
theorem lN_dec {a b c : Nat} (ha : a < 2 ^ 63) (hb : b < 2 ^ 63) (hc : c < 2 ^ 63) : decide (lN a ≤ lN b ∧ lN b ≤ lN c) = decide (a ≤ b ∧ b ≤ c) := by
  refine decide_eq_decide.mpr ?_
  rw [Int64.le_iff_toInt_le, Int64.le_iff_toInt_le, pk_lT ha, pk_lT hb, pk_lT hc]; omega
/-- what changes: the arrays and numbers of the list, no shape, nothing outside -/
def fOut (L : List Nat) (mb : Nat) (M M' : Mem) : Prop := mK M' = mK M ∧ mN M' = mN M ∧ mR M' = mR M ∧ (∀ a, (a < mb ∨ mb + 58 < a) → mI M' a = mI M a ∧ mL M' a = mL M a) ∧ ∀ k, k < 70 → L.contains k = false → (mkd.getD k 0 = 0 → mI M' mb k = mI M mb k) ∧ (mkd.getD k 0 ≠ 0 → mI M' (ma mb k) = mI M (ma mb k) ∧ mL M' (ma mb k) = mL M (ma mb k))
theorem fOut.rf (L : List Nat) (mb : Nat) (M : Mem) : fOut L mb M M := ⟨rfl, rfl, rfl, fun _ _ => ⟨rfl, rfl⟩, fun _ _ _ => ⟨fun _ => rfl, fun _ => ⟨rfl, rfl⟩⟩⟩
theorem fOut.tr {L : List Nat} {mb : Nat} {M M1 M2 : Mem} (h : fOut L mb M M1) (g : fOut L mb M1 M2) : fOut L mb M M2 :=
  ⟨g.1.trans h.1, g.2.1.trans h.2.1, g.2.2.1.trans h.2.2.1, fun a q => ⟨(g.2.2.2.1 a q).1.trans (h.2.2.2.1 a q).1, (g.2.2.2.1 a q).2.trans (h.2.2.2.1 a q).2⟩, fun k hk hL => ⟨fun z => ((g.2.2.2.2 k hk hL).1 z).trans ((h.2.2.2.2 k hk hL).1 z), fun z => ⟨((g.2.2.2.2 k hk hL).2 z).1.trans ((h.2.2.2.2 k hk hL).2 z).1, ((g.2.2.2.2 k hk hL).2 z).2.trans ((h.2.2.2.2 k hk hL).2 z).2⟩⟩⟩
theorem fOut.mono {L L' : List Nat} {mb : Nat} {M M' : Mem} (h : fOut L mb M M') (hL : (List.range 70).all (fun k => L'.contains k || !L.contains k) = true) : fOut L' mb M M' :=
  ⟨h.1, h.2.1, h.2.2.1, h.2.2.2.1, fun k hk hl => h.2.2.2.2 k hk (by have h1 := List.all_eq_true.mp hL k (List.mem_range.mpr hk); rw [hl] at h1; simpa using h1)⟩
def fck (L : List Nat) (k : Nat) : Bool := decide (k < 70) && ((List.range 70).all (fun q => L.contains q || (mkd.getD q 0 == 0) || (mrk.getD q 0 != mrk.getD k 0)) && (mrk.getD k 0 != 0))
def fck0 (L : List Nat) (k : Nat) : Bool := L.contains k && (List.range 70).all (fun q => (mkd.getD q 0 == 0) || (mrk.getD q 0 != 0))
theorem fck_ne {L : List Nat} {k q mb : Nat} (h : fck L k = true) (hq : q < 70) (hL : L.contains q = false) (hz : mkd.getD q 0 ≠ 0) : ma mb q ≠ ma mb k := by
  unfold fck at h
  simp only [Bool.and_eq_true] at h
  have h3 := List.all_eq_true.mp h.2.1 q (List.mem_range.mpr hq)
  rw [hL] at h3
  simp only [Bool.false_or, Bool.or_eq_true, beq_iff_eq, bne_iff_ne] at h3
  have h4 := h3.resolve_left hz
  unfold ma
  omega
theorem fck_0 {L : List Nat} {k mb : Nat} (h : fck L k = true) : mb ≠ ma mb k := by
  unfold fck at h
  simp only [Bool.and_eq_true, bne_iff_ne] at h
  unfold ma
  have := h.2.2
  omega
theorem fck0_ne {L : List Nat} {k q mb : Nat} (h : fck0 L k = true) (hq : q < 70) (hz : mkd.getD q 0 ≠ 0) : ma mb q ≠ mb := by
  unfold fck0 at h
  simp only [Bool.and_eq_true] at h
  have h3 := List.all_eq_true.mp h.2 q (List.mem_range.mpr hq)
  simp only [Bool.or_eq_true, beq_iff_eq, bne_iff_ne] at h3
  have h4 := h3.resolve_left hz
  unfold ma
  omega
theorem fOut.setI {L : List Nat} {mb : Nat} {M M' : Mem} (h : fOut L mb M M') (k x : Nat) (v : Int32) (hc : fck L k = true) : fOut L mb M (wI M' (ma mb k) x v) :=
  ⟨h.1, h.2.1, h.2.2.1, fun a q => ⟨by rw [← (h.2.2.2.1 a q).1]; exact up2_row _ _ (by have := mrk_le k; unfold ma; omega), (h.2.2.2.1 a q).2⟩, fun q hq hL => ⟨fun z => by rw [← (h.2.2.2.2 q hq hL).1 z]; exact up2_a _ _ (fck_0 hc), fun z => ⟨by rw [← ((h.2.2.2.2 q hq hL).2 z).1]; exact up2_row _ _ (fck_ne hc hq hL z), ((h.2.2.2.2 q hq hL).2 z).2⟩⟩⟩
theorem fOut.setL {L : List Nat} {mb : Nat} {M M' : Mem} (h : fOut L mb M M') (k x : Nat) (v : Int64) (hc : fck L k = true) : fOut L mb M (wL M' (ma mb k) x v) :=
  ⟨h.1, h.2.1, h.2.2.1, fun a q => ⟨(h.2.2.2.1 a q).1, by rw [← (h.2.2.2.1 a q).2]; exact up2_row _ _ (by have := mrk_le k; unfold ma; omega)⟩, fun q hq hL => ⟨fun z => (h.2.2.2.2 q hq hL).1 z, fun z => ⟨((h.2.2.2.2 q hq hL).2 z).1, by rw [← ((h.2.2.2.2 q hq hL).2 z).2]; exact up2_row _ _ (fck_ne hc hq hL z)⟩⟩⟩
theorem fOut.set0 {L : List Nat} {mb : Nat} {M M' : Mem} (h : fOut L mb M M') (k : Nat) (v : Int32) (hc : fck0 L k = true) : fOut L mb M (wI M' mb k v) :=
  ⟨h.1, h.2.1, h.2.2.1, fun a q => ⟨by rw [← (h.2.2.2.1 a q).1]; exact up2_row _ _ (by omega), (h.2.2.2.1 a q).2⟩, fun q hq hL => ⟨fun z => by rw [← (h.2.2.2.2 q hq hL).1 z]; exact up2_k _ _ (fun e => by unfold fck0 at hc; rw [← e, hL] at hc; cases hc), fun z => ⟨by rw [← ((h.2.2.2.2 q hq hL).2 z).1]; exact up2_row _ _ (fck0_ne hc hq z), ((h.2.2.2.2 q hq hL).2 z).2⟩⟩⟩
theorem fOut.te {L : List Nat} {mb : Nat} {M M' : Mem} {τ : Mu} (h : fOut L mb M M') (hL : L.all (fun k => !told k) = true) (ht : TE (mI M) (mL M) mb τ) : TE (mI M') (mL M') mb τ := by
  intro k hk
  have h7 : k < 70 := by unfold told at hk; simp only [Bool.and_eq_true, decide_eq_true_eq] at hk; omega
  have hn : L.contains k = false := by
    cases hc : L.contains k with
    | false => rfl
    | true => have := List.all_eq_true.mp hL k (by simpa using hc); rw [hk] at this; cases this
  have h2 := ht k hk
  have h3 := h.2.2.2.2 k h7 hn
  by_cases z : mkd.getD k 0 = 0
  · rw [if_pos z] at h2 ⊢; rw [h3.1 z]; exact h2
  · rw [if_neg z] at h2 ⊢; rw [(h3.2 z).1, (h3.2 z).2]; exact h2
theorem fOut.tb {L : List Nat} {mb : Nat} {M M' : Mem} {τ : Mu} (h : fOut L mb M M') (hL : (!(L.contains 46 || (L.contains 47 || (L.contains 48 || (L.contains 49 || (L.contains 50 || (L.contains 51 || (L.contains 52 || (L.contains 53 || L.contains 54))))))))) = true) (ht : TEb (mI M) (mL M) mb τ) : TEb (mI M') (mL M') mb τ := by
  simp only [Bool.not_eq_true', Bool.or_eq_false_iff] at hL
  intro k hk
  have hk2 : 46 ≤ k ∧ k < 55 := by simpa using hk
  have hn : L.contains k = false := by
    rcases (show k = 46 ∨ k = 47 ∨ k = 48 ∨ k = 49 ∨ k = 50 ∨ k = 51 ∨ k = 52 ∨ k = 53 ∨ k = 54 by omega) with rfl | rfl | rfl | rfl | rfl | rfl | rfl | rfl | rfl
    · exact hL.1
    · exact hL.2.1
    · exact hL.2.2.1
    · exact hL.2.2.2.1
    · exact hL.2.2.2.2.1
    · exact hL.2.2.2.2.2.1
    · exact hL.2.2.2.2.2.2.1
    · exact hL.2.2.2.2.2.2.2.1
    · exact hL.2.2.2.2.2.2.2.2
  have h2 := ht k hk
  have h3 := h.2.2.2.2 k (by omega) hn
  by_cases z : mkd.getD k 0 = 0
  · rw [if_pos z] at h2 ⊢; rw [h3.1 z]; exact h2
  · rw [if_neg z] at h2 ⊢; rw [(h3.2 z).1, (h3.2 z).2]; exact h2
theorem fOut.ok {L : List Nat} {mb : Nat} {M M' : Mem} (h : fOut L mb M M') (hm : MOK (mK M) (mN M) (mR M) mb) : MOK (mK M') (mN M') (mR M') mb := by
  rw [h.1, h.2.1, h.2.2.1]; exact hm
theorem fOut.i {L : List Nat} {mb : Nat} {M M' : Mem} (h : fOut L mb M M') (k : Nat) (hk : (decide (k < 70) && !L.contains k && (mkd.getD k 0 != 0)) = true) : mI M' (ma mb k) = mI M (ma mb k) := by
  simp only [Bool.and_eq_true, decide_eq_true_eq, bne_iff_ne, Bool.not_eq_true'] at hk
  exact ((h.2.2.2.2 k hk.1.1 hk.1.2).2 hk.2).1
theorem fOut.l {L : List Nat} {mb : Nat} {M M' : Mem} (h : fOut L mb M M') (k : Nat) (hk : (decide (k < 70) && !L.contains k && (mkd.getD k 0 != 0)) = true) : mL M' (ma mb k) = mL M (ma mb k) := by
  simp only [Bool.and_eq_true, decide_eq_true_eq, bne_iff_ne, Bool.not_eq_true'] at hk
  exact ((h.2.2.2.2 k hk.1.1 hk.1.2).2 hk.2).2
theorem fOut.s {L : List Nat} {mb : Nat} {M M' : Mem} (h : fOut L mb M M') (k : Nat) (hk : (decide (k < 70) && !L.contains k && (mkd.getD k 0 == 0)) = true) : mI M' mb k = mI M mb k := by
  simp only [Bool.and_eq_true, decide_eq_true_eq, beq_iff_eq, Bool.not_eq_true'] at hk
  exact (h.2.2.2.2 k hk.1.1 hk.1.2).1 hk.2
theorem fOut.mo {L : List Nat} {mb : Nat} {M M' : Mem} (h : fOut L mb M M') : mOut mb M M' := ⟨h.1, h.2.1, h.2.2.1, h.2.2.2.1⟩
def anyN (f : Nat → Bool) : Nat → Bool
  | 0 => false
  | n + 1 => anyN f n || f n
theorem anyN_iff {f : Nat → Bool} {n : Nat} : anyN f n = true ↔ ∃ k, k < n ∧ f k = true := by
  induction n with
  | zero => exact ⟨fun h => (by cases h), fun ⟨k, h, _⟩ => absurd h (Nat.not_lt_zero _)⟩
  | succ n ih =>
    show (anyN f n || f n) = true ↔ _
    rw [Bool.or_eq_true, ih]
    constructor
    · rintro (⟨k, h1, h2⟩ | h)
      · exact ⟨k, by omega, h2⟩
      · exact ⟨n, by omega, h⟩
    · rintro ⟨k, h1, h2⟩
      by_cases e : k = n
      · exact .inr (e ▸ h2)
      · exact .inl ⟨k, by omega, h2⟩
theorem fst_none {f : Nat → Bool} : ∀ {n : Nat}, (∀ k, k < n → f k = false) → fstN f n = none
  | 0, _ => rfl
  | n + 1, h => by
    show (match fstN f n with | some j => some j | none => if f n = true then some n else none) = none
    rw [fst_none (fun k hk => h k (by omega)), h n (by omega)]; rfl
theorem fst_some {f : Nat → Bool} {j : Nat} (hj : f j = true) (hb : ∀ k, k < j → f k = false) : ∀ {n : Nat}, j < n → fstN f n = some j
  | 0, h => absurd h (Nat.not_lt_zero _)
  | n + 1, h => by
    show (match fstN f n with | some j => some j | none => if f n = true then some n else none) = some j
    by_cases e : j = n
    · subst e; rw [fst_none hb, hj]; rfl
    · rw [fst_some hj hb (n := n) (by omega)]
theorem fst_lt {f : Nat → Bool} {j : Nat} : ∀ {n : Nat}, fstN f n = some j → j < n ∧ f j = true
  | 0, h => by cases h
  | n + 1, h => by
    have h1 : (match fstN f n with | some j => some j | none => if f n = true then some n else none) = some j := h
    cases h2 : fstN f n with
    | some i => rw [h2] at h1; cases h1; have := fst_lt h2; exact ⟨by omega, this.2⟩
    | none =>
      rw [h2] at h1
      by_cases z : f n = true
      · simp only [if_pos z] at h1; cases h1; exact ⟨by omega, z⟩
      · simp only [if_neg z] at h1; cases h1
def workB (τ : Mu) (p d c : Nat) : Bool := decide (un τ 0 c = p ∧ un τ 2 c ≤ d ∧ d ≤ un τ 3 c)
def worksB (τ : Mu) (p d : Nat) : Bool := anyN (workB τ p d) (un τ 9 9)
def homeB (τ : Mu) (p m c : Nat) : Bool := decide (un τ 0 c = p ∧ un τ 2 c < 30 * m + 30 ∧ 30 * m ≤ un τ 3 c)
def homeN (τ : Mu) (p m : Nat) : Nat := match fstN (homeB τ p m) (un τ 9 9) with | some c => un τ 1 c | none => 0
theorem homeN_le {τ : Mu} (hw : WF τ) (p m : Nat) : homeN τ p m ≤ 2 := by
  unfold homeN
  cases h : fstN (homeB τ p m) (un τ 9 9) with
  | none => exact Nat.zero_le _
  | some c => exact (hw.cp c (fst_lt h).1).2
/-- what home finds, from behind -/
def hmI (τ : Mu) (p m k : Nat) (x : Int32) : Prop := (x = -1 ∧ ∀ c, k ≤ c → c < un τ 9 9 → homeB τ p m c = false) ∨ ∃ j, x = nI j ∧ k ≤ j ∧ j < un τ 9 9 ∧ homeB τ p m j = true ∧ ∀ c, k ≤ c → c < j → homeB τ p m c = false
theorem hmI_0 {τ : Mu} {p m j : Nat} (h : hmI τ p m 0 (nI j)) (hj : j < 2 ^ 31) (h9 : un τ 9 9 ≤ 10) : j < un τ 9 9 ∧ homeN τ p m = un τ 1 j := by
  rcases h with ⟨h1, h2⟩ | ⟨i, h1, h2, h3, h4, h5⟩
  · have h6 : (nI j).toInt = (-1 : Int32).toInt := by rw [h1]
    rw [nI_toInt hj, show (-1 : Int32).toInt = -1 from rfl] at h6
    omega
  · have h6 : (nI j).toInt = (nI i).toInt := by rw [h1]
    rw [nI_toInt hj, nI_toInt (by omega)] at h6
    have e : j = i := by omega
    subst e
    refine ⟨h3, ?_⟩
    unfold homeN
    rw [fst_some h4 (fun c hc => h5 c (Nat.zero_le _) hc) h3]
/-- the lowest of those from k on, as the reference keeps it -/
def lowI (f : Nat → Bool) (n k : Nat) (x : Int32) : Prop := (x = -1 ∧ ∀ c, k ≤ c → c < n → f c = false) ∨ ∃ j, x = nI j ∧ k ≤ j ∧ j < n ∧ f j = true ∧ ∀ c, k ≤ c → c < j → f c = false
theorem lowI.s {f : Nat → Bool} {n j : Nat} {x : Int32} (h : lowI f n (j + 1) x) (q : f j = false) : lowI f n j x := by
  rcases h with ⟨h1, h2⟩ | ⟨i, h1, h2, h3, h4, h5⟩
  · exact .inl ⟨h1, fun c q1 q2 => by by_cases e : c = j; exact e ▸ q; exact h2 c (by omega) q2⟩
  · exact .inr ⟨i, h1, by omega, h3, h4, fun c q1 q2 => by by_cases e : c = j; exact e ▸ q; exact h5 c (by omega) q2⟩
theorem lowI.t {f : Nat → Bool} {n j : Nat} (hj : j < n) (q : f j = true) : lowI f n j (nI j) := .inr ⟨j, rfl, Nat.le_refl _, hj, q, fun c q1 q2 => by omega⟩
theorem lowI.e {f : Nat → Bool} {n i : Nat} {x : Int32} (h : lowI f n 0 x) (hi : fstN f n = some i) : x = nI i := by
  rcases h with ⟨h1, h2⟩ | ⟨j, h1, h2, h3, h4, h5⟩
  · rw [fst_none (fun k hk => h2 k (Nat.zero_le _) hk)] at hi; cases hi
  · rw [fst_some h4 (fun k hk => h5 k (Nat.zero_le _) hk) h3] at hi; cases hi; exact h1
def meetB (τ : Mu) (c b n k : Nat) : Bool := decide (un τ 10 k = c ∧ b < un τ 11 k + un τ 12 k ∧ un τ 11 k < b + n)
def meetsB (τ : Mu) (c b n : Nat) : Bool := anyN (meetB τ c b n) (un τ 13 13)
/-- leave: what there is (new, carried) behind k tellings of a day, when a day begins, behind all days ahead -/
def tkK (τ : Mu) (p d : Nat) (s : Nat × Nat) : Nat → Nat × Nat
  | 0 => s
  | k + 1 => if un τ 15 k = d ∧ un τ 0 (un τ 14 k) = p ∧ 10 ≤ (tkK τ p d s k).1 + (tkK τ p d s k).2 then ((tkK τ p d s k).1 - (10 - min (tkK τ p d s k).2 10), (tkK τ p d s k).2 - min (tkK τ p d s k).2 10) else tkK τ p d s k
def tkH (τ : Mu) (p d h : Nat) : Nat := h + (if d % 30 = 0 ∧ 0 < d ∧ worksB τ p (d - 1) = true then un τ 18 18 else 0)
def tkD (τ : Mu) (p d : Nat) (s : Nat × Nat) : Nat × Nat := (if d = 360 then 0 else tkH τ p d s.1, if d = 30 * (12 + un τ 20 20) then 0 else if d = 360 then min (tkH τ p d s.1) (un τ 19 19) else s.2)
def tk (τ : Mu) (p : Nat) : Nat → Nat × Nat
  | 0 => (0, 0)
  | d + 1 => tkK τ p d (tkD τ p d (tk τ p d)) (un τ 17 17)
def leftN (τ : Mu) (p d : Nat) : Nat := (tkD τ p d (tk τ p d)).1 + (tkD τ p d (tk τ p d)).2
def ltS (τ : Mu) (p d k : Nat) : Nat × Nat := tkK τ p d (tkD τ p d (tk τ p d)) k
def ltN (τ : Mu) (k : Nat) : Nat := if 10 ≤ (ltS τ (un τ 0 (un τ 14 k)) (un τ 15 k) k).1 + (ltS τ (un τ 0 (un τ 14 k)) (un τ 15 k) k).2 then 1 else 0
theorem ltN_le (τ : Mu) (k : Nat) : ltN τ k ≤ 1 := by unfold ltN; split <;> omega
theorem tkK_le (τ : Mu) (p d : Nat) (s : Nat × Nat) : ∀ k, (tkK τ p d s k).1 ≤ s.1 ∧ (tkK τ p d s k).2 ≤ s.2
  | 0 => ⟨Nat.le_refl _, Nat.le_refl _⟩
  | k + 1 => by
    have h := tkK_le τ p d s k
    unfold tkK
    split
    · exact ⟨Nat.le_trans (Nat.sub_le _ _) h.1, Nat.le_trans (Nat.sub_le _ _) h.2⟩
    · exact h
theorem tkD_le {τ : Mu} (hw : WF τ) (p d : Nat) (s : Nat × Nat) : (tkD τ p d s).1 ≤ s.1 + 50 ∧ (tkD τ p d s).2 ≤ max s.2 500 := by
  have h1 := hw.rt.2
  have h2 := hw.ca.2
  have h3 : tkH τ p d s.1 ≤ s.1 + 50 := by unfold tkH; split <;> omega
  unfold tkD
  refine ⟨?_, ?_⟩
  · show (if d = 360 then 0 else tkH τ p d s.1) ≤ _
    split <;> omega
  · show (if d = 30 * (12 + un τ 20 20) then 0 else if d = 360 then min (tkH τ p d s.1) (un τ 19 19) else s.2) ≤ _
    split
    · omega
    · split <;> omega
theorem tk_le {τ : Mu} (hw : WF τ) (p : Nat) : ∀ d, (tk τ p d).1 ≤ 50 * d ∧ (tk τ p d).2 ≤ 500
  | 0 => ⟨Nat.le_refl _, Nat.zero_le _⟩
  | d + 1 => by
    have h := tk_le hw p d
    have h1 := tkD_le hw p d (tk τ p d)
    have h2 := tkK_le τ p d (tkD τ p d (tk τ p d)) (un τ 17 17)
    show (tkK τ p d (tkD τ p d (tk τ p d)) (un τ 17 17)).1 ≤ _ ∧ (tkK τ p d (tkD τ p d (tk τ p d)) (un τ 17 17)).2 ≤ _
    omega

set_option maxHeartbeats 4000000 in
set_option maxRecDepth 100000 in
theorem c_X12_works (l : Launch) (hfl : l.flags = flags0) (G : gW) (M : Mem) (mb : Nat) (τ : Mu) (hm : MOK (mK M) (mN M) (mR M) mb) (ht : TE (mI M) (mL M) mb τ) (hw : WF τ) (p d : Nat) (hp : p < 6) (hd : d < 720) : CT l yX12_works cX12_works 5 (some .boolean) 1 0 0 26 G M [.ref mb, .int (nI p), .int (nI d)] (fun v M' => v = some (.int (bI (worksB τ p d))) ∧ M = M') := by
  refine CT.of hfl rfl (Nat.le_of_ble_eq_true rfl) ?_
  intro pp ee ss mm ar bw mt cd C hgX hr hini
  have hnc := hw.nc.2
  have hsh := hw.sh.2
  have hnl := hw.nl.2
  have hne := hw.ne.2
  have hng := hw.ng.2
  have hop := hw.op.2
  have hnp := hw.np.2
  refine V.eLo (lo' := [(0, .ref mb), (1, .int (nI p)), (2, .int (nI d))]) rfl ?_
  refine r_iconst C (v := bI false) dX12_works_0 (by decide) ?_
  refine r_istore_n C (lo' := [(3, .int (bI false)), (0, .ref mb), (1, .int (nI p)), (2, .int (nI d))]) dX12_works_1 rfl (by decide) rfl ?_
  refine r_iconst C (v := nI 0) dX12_works_2 (by decide) ?_
  refine r_istore C (lo' := [(4, .int (nI 0)), (3, .int (bI false)), (0, .ref mb), (1, .int (nI p)), (2, .int (nI d))]) dX12_works_3 (by decide) rfl ?_
  have lp5 : ∀ (k5 : Nat) (c : Nat) (hc : c ≤ un τ 9 9), un τ 9 9 + 1 - c < k5 → V pp l ee ({ frames := 1, cells := 0, slots := 0, locals := 26 } : Room) ss mm ar bw mt cd G (MQ bw (Ke G (fun v M' => v = some (.int (bI (worksB τ p d))) ∧ M = M')) ar ss 0 0 (gA G)) 5 M 0 0 5 [(0, .ref mb), (1, .int (nI p)), (2, .int (nI d)), (3, .int (bI (anyN (workB τ p d) c))), (4, .int (nI c))] [] := by
    intro k5
    induction k5 with
    | zero => intro c hc hz5; exact absurd hz5 (Nat.not_lt_zero _)
    | succ k5 ih5 =>
      intro c hc hz5
      refine r_iload C 4 dX12_works_5 rfl ?_
      refine r_aload_n C 0 dX12_works_7 rfl rfl ?_
      refine r_getI C fl_X12_201 rfl hm.k dX12_works_8 ?_
      refine V.ei (y := nI (un τ 9 9)) ((ht.s 9 rfl).trans hw.nc.1) ?_
      refine r_icmp_geN C (t := 64) (by omega) (by omega) dX12_works_11 (by decide) (fun c11 => ?_) (fun c11 => ?_)
      · skip
        have ec : c = un τ 9 9 := by omega
        refine r_iload_n C 3 dX12_works_64 rfl rfl ?_
        exact r_zret C hr (bI_01 _) (⟨by subst ec; rfl, rfl⟩) (by first | exact Nat.zero_le _ | decide) (by first | exact Nat.zero_le _ | decide) dX12_works_65
      · skip
        refine r_iload_n C 3 dX12_works_14 rfl rfl ?_
        have jn56 : V pp l ee ({ frames := 1, cells := 0, slots := 0, locals := 26 } : Room) ss mm ar bw mt cd G (MQ bw (Ke G (fun v M' => v = some (.int (bI (worksB τ p d))) ∧ M = M')) ar ss 0 0 (gA G)) 5 M 0 0 56 [(0, .ref mb), (1, .int (nI p)), (2, .int (nI d)), (3, .int (bI (anyN (workB τ p d) c))), (4, .int (nI c))] [.int (bI (workB τ p d c)), .int (bI (anyN (workB τ p d) c))] := by
          skip
          refine r_iorB C dX12_works_56 ?_
          refine r_istore_n C (lo' := [(3, .int (bI ((anyN (workB τ p d) c) || (workB τ p d c)))), (0, .ref mb), (1, .int (nI p)), (2, .int (nI d)), (4, .int (nI c))]) dX12_works_57 rfl (by decide) rfl ?_
          refine r_iinc C (v := nI (c + 1)) (lo' := [(4, .int (nI (c + 1))), (3, .int (bI ((anyN (workB τ p d) c) || (workB τ p d c)))), (0, .ref mb), (1, .int (nI p)), (2, .int (nI d))]) 4 dX12_works_58 rfl (nI_addI c 1) (by decide) rfl ?_
          refine r_goto C (t := 5) dX12_works_61 (by decide) ?_
          have jb3 : ((anyN (workB τ p d) c) || (workB τ p d c)) = (anyN (workB τ p d) (c + 1)) := by rfl
          refine V.eLo (lo' := [(4, .int (nI (c + 1))), (3, .int (bI (anyN (workB τ p d) (c + 1)))), (0, .ref mb), (1, .int (nI p)), (2, .int (nI d))]) (congrArg (fun z_ => ([(4, .int (nI (c + 1))), (3, .int (bI z_)), (0, .ref mb), (1, .int (nI p)), (2, .int (nI d))] : List (Nat × Value))) jb3) ?_
          refine V.sub [2, 3, 4, 1, 0] (lo' := [(0, .ref mb), (1, .int (nI p)), (2, .int (nI d)), (3, .int (bI (anyN (workB τ p d) (c + 1)))), (4, .int (nI (c + 1)))]) rfl ?_
          exact ih5 (c + 1) (by omega) (by omega)
        refine r_aload_n C 0 dX12_works_15 rfl rfl ?_
        refine r_getR C (b := (ma mb 0)) fl_X12_7 rfl hm.k (hm.r 0 rfl) dX12_works_16 ?_
        refine r_iload C 4 dX12_works_19 rfl ?_
        refine r_ialoadN C (hm.i 0 20 rfl) (hm.n 0 10 rfl) (by omega) (by omega) dX12_works_21 ?_
        refine V.ei (y := nI (un τ 0 c)) ((ht.i 0 rfl _).trans (hw.cw c (by omega)).1) ?_
        have hb0 := (hw.cw c (by omega)).2
        refine r_iload_n C 1 dX12_works_22 rfl rfl ?_
        refine r_icmp_neN C (t := 55) (by omega) (by omega) dX12_works_23 (by decide) (fun c23 => ?_) (fun c23 => ?_)
        · skip
          refine r_iconst C (v := nI 0) dX12_works_55 (by decide) ?_
          refine V.eSt (st' := [.int (bI false), .int (bI (anyN (workB τ p d) c))]) rfl ?_
          refine V.ei (y := bI (workB τ p d c)) (congrArg bI (by exact (decide_eq_false (by omega)).symm)) ?_
          exact jn56
        · skip
          refine r_aload_n C 0 dX12_works_26 rfl rfl ?_
          refine r_iload_n C 2 dX12_works_27 rfl rfl ?_
          refine r_i2lN C (by omega) dX12_works_28 ?_
          refine r_aload_n C 0 dX12_works_29 rfl rfl ?_
          refine r_getR C (b := (ma mb 2)) fl_X12_16 rfl hm.k (hm.r 2 rfl) dX12_works_30 ?_
          refine r_iload C 4 dX12_works_33 rfl ?_
          refine r_ialoadN C (hm.i 2 20 rfl) (hm.n 2 10 rfl) (by omega) (by omega) dX12_works_35 ?_
          refine V.ei (y := nI (un τ 2 c)) ((ht.i 2 rfl _).trans (hw.cf c (by omega)).1) ?_
          have hb1 := (hw.cf c (by omega)).2
          refine r_i2lN C (by omega) dX12_works_36 ?_
          refine r_aload_n C 0 dX12_works_37 rfl rfl ?_
          refine r_getR C (b := (ma mb 3)) fl_X12_19 rfl hm.k (hm.r 3 rfl) dX12_works_38 ?_
          refine r_iload C 4 dX12_works_41 rfl ?_
          refine r_ialoadN C (hm.i 3 20 rfl) (hm.n 3 10 rfl) (by omega) (by omega) dX12_works_43 ?_
          refine V.ei (y := nI (un τ 3 c)) ((ht.i 3 rfl _).trans (hw.ct c (by omega)).1) ?_
          have hb2 := (hw.ct c (by omega)).2
          refine r_i2lN C (by omega) dX12_works_44 ?_
          refine r_callV C hgX (ci := 14) ml_X12_191 im_X12_in se_X12_in rfl rfl hm.k (c_X12_in l hfl G M mb (lN d) (lN (un τ 2 c)) (lN (un τ 3 c))) rfl (Nat.le_of_ble_eq_true rfl) ⟨Nat.le_of_ble_eq_true rfl, Nat.le_of_ble_eq_true rfl⟩ ⟨Nat.le_of_ble_eq_true rfl, Nat.le_of_ble_eq_true rfl⟩ dX12_works_45 rfl ?_
          rintro _ _ ⟨rfl, rfl⟩
          refine V.eSt (st' := [.int (bI (decide ((lN (un τ 2 c)) ≤ (lN d) ∧ (lN d) ≤ (lN (un τ 3 c))))), .int (bI (anyN (workB τ p d) c))]) rfl ?_
          refine V.ei (y := bI (decide ((un τ 2 c) ≤ d ∧ d ≤ (un τ 3 c)))) (congrArg bI (lN_dec (by omega) (by omega) (by omega))) ?_
          refine r_if_eqB C (t := 55) dX12_works_48 (by decide) (fun c48 => ?_) (fun c48 => ?_)
          · skip
            have c48d := of_decide_eq_false c48
            refine r_iconst C (v := nI 0) dX12_works_55 (by decide) ?_
            refine V.eSt (st' := [.int (bI false), .int (bI (anyN (workB τ p d) c))]) rfl ?_
            refine V.ei (y := bI (workB τ p d c)) (congrArg bI (by exact (decide_eq_false (by omega)).symm)) ?_
            exact jn56
          · skip
            have c48d := of_decide_eq_true c48
            refine r_iconst C (v := nI 1) dX12_works_51 (by decide) ?_
            refine r_goto C (t := 56) dX12_works_52 (by decide) ?_
            refine V.eSt (st' := [.int (bI true), .int (bI (anyN (workB τ p d) c))]) rfl ?_
            refine V.ei (y := bI (workB τ p d c)) (congrArg bI (by exact (decide_eq_true (by omega)).symm)) ?_
            exact jn56
  refine V.sub [2, 3, 4, 1, 0] (lo' := [(0, .ref mb), (1, .int (nI p)), (2, .int (nI d)), (3, .int (bI false)), (4, .int (nI 0))]) rfl ?_
  exact lp5 _ 0 (Nat.zero_le _) (Nat.lt_succ_self _)
set_option maxHeartbeats 4000000 in
set_option maxRecDepth 100000 in
theorem c_X12_home (l : Launch) (hfl : l.flags = flags0) (G : gW) (M : Mem) (mb : Nat) (τ : Mu) (hm : MOK (mK M) (mN M) (mR M) mb) (ht : TE (mI M) (mL M) mb τ) (hw : WF τ) (p m : Nat) (hp : p < 6) (hmn : m < 24) : CT l yX12_home cX12_home 6 (some .int) 0 0 0 0 G M [.ref mb, .int (nI p), .int (nI m)] (fun v M' => v = some (.int (nI (homeN τ p m))) ∧ M = M') := by
  refine CT.of hfl rfl (Nat.le_of_ble_eq_true rfl) ?_
  intro pp ee ss mm ar bw mt cd C hgX hr hini
  have hnc := hw.nc.2
  have hsh := hw.sh.2
  have hnl := hw.nl.2
  have hne := hw.ne.2
  have hng := hw.ng.2
  have hop := hw.op.2
  have hnp := hw.np.2
  refine V.eLo (lo' := [(0, .ref mb), (1, .int (nI p)), (2, .int (nI m))]) rfl ?_
  refine r_iconst C (v := (-1)) dX12_home_0 (by decide) ?_
  refine r_istore_n C (lo' := [(3, .int (-1)), (0, .ref mb), (1, .int (nI p)), (2, .int (nI m))]) dX12_home_1 rfl (by decide) rfl ?_
  refine r_aload_n C 1 dX12_home_2 rfl rfl ?_
  refine r_getI C fl_X12_201 rfl hm.k dX12_home_3 ?_
  refine V.ei (y := nI (un τ 9 9)) ((ht.s 9 rfl).trans hw.nc.1) ?_
  refine r_iconst C (v := nI 1) dX12_home_6 (by decide) ?_
  refine r_isub C dX12_home_7 ?_
  refine r_istore C (lo' := [(4, .int ((nI (un τ 9 9)) - (nI 1))), (3, .int (-1)), (0, .ref mb), (1, .int (nI p)), (2, .int (nI m))]) dX12_home_8 (by decide) rfl ?_
  have lp10 : ∀ (k10 : Nat) (k : Nat) (x : Int32) (hk : k ≤ un τ 9 9) (hx : hmI τ p m k x), k + 1 < k10 → V pp l ee ({ frames := 0, cells := 0, slots := 0, locals := 0 } : Room) ss mm ar bw mt cd G (MQ bw (Ke G (fun v M' => v = some (.int (nI (homeN τ p m))) ∧ M = M')) ar ss 0 0 (gA G)) 6 M 0 0 10 [(0, .ref mb), (1, .int (nI p)), (2, .int (nI m)), (3, .int x), (4, .int (nI k - nI 1))] [] := by
    intro k10
    induction k10 with
    | zero => intro k x hk hx hz10; exact absurd hz10 (Nat.not_lt_zero _)
    | succ k10 ih10 =>
      intro k x hk hx hz10
      refine r_iload C 4 dX12_home_10 rfl ?_
      refine r_if_lt C (t := 82) dX12_home_12 (by decide) (fun c12 => ?_) (fun c12 => ?_)
      · skip
        have ek : k = 0 := (nI_lt0 (by omega)).mp c12
        subst ek
        refine r_iload_n C 3 dX12_home_82 rfl rfl ?_
        refine r_if_ge C (t := 90) dX12_home_83 (by decide) (fun c83 => ?_) (fun c83 => ?_)
        · skip
          obtain ⟨j, hj, rfl⟩ := nI_of (Int32.not_lt.mpr c83)
          have hj0 := hmI_0 hx hj hnc
          refine r_aload_n C 0 dX12_home_90 rfl rfl ?_
          refine r_getR C (b := (ma mb 1)) fl_X12_13 rfl hm.k (hm.r 1 rfl) dX12_home_91 ?_
          refine r_iload_n C 3 dX12_home_94 rfl rfl ?_
          refine r_ialoadN C (hm.i 1 20 rfl) (hm.n 1 10 rfl) (by omega) (by omega) dX12_home_95 ?_
          refine V.ei (y := nI (un τ 1 j)) ((ht.i 1 rfl _).trans (hw.cp j (by omega)).1) ?_
          have hb0 := (hw.cp j (by omega)).2
          exact r_iret C hr (⟨by rw [hj0.2], rfl⟩) (by first | exact Nat.zero_le _ | decide) (by first | exact Nat.zero_le _ | decide) dX12_home_96
        · skip
          have hn0 : homeN τ p m = 0 := by
            rcases hx with ⟨h1, h2⟩ | ⟨i, h1, h2, h3, h4, h5⟩
            · unfold homeN; rw [fst_none (fun c q => h2 c (Nat.zero_le _) q)]
            · rw [h1, show (0 : Int32) = nI 0 from rfl] at c83; exact absurd ((nI_ltI (by omega) (by decide)).mp (Int32.not_le.mp c83)) (by omega)
          refine r_iconst C (v := nI 0) dX12_home_86 (by decide) ?_
          refine r_goto C (t := 96) dX12_home_87 (by decide) ?_
          exact r_iret C hr (⟨by rw [hn0], rfl⟩) (by first | exact Nat.zero_le _ | decide) (by first | exact Nat.zero_le _ | decide) dX12_home_96
      · skip
        have ek : k ≠ 0 := fun z => c12 ((nI_lt0 (by omega)).mpr z)
        obtain ⟨j, rfl⟩ : ∃ j, k = j + 1 := ⟨k - 1, by omega⟩
        rw [nI_pred1 j]
        have jn62 : V pp l ee ({ frames := 0, cells := 0, slots := 0, locals := 0 } : Room) ss mm ar bw mt cd G (MQ bw (Ke G (fun v M' => v = some (.int (nI (homeN τ p m))) ∧ M = M')) ar ss 0 0 (gA G)) 6 M 0 0 62 [(0, .ref mb), (1, .int (nI p)), (2, .int (nI m)), (3, .int x), (4, .int (nI j))] [.int (bI (homeB τ p m j))] := by
          skip
          refine r_istore C (lo' := [(5, .int (bI (homeB τ p m j))), (0, .ref mb), (1, .int (nI p)), (2, .int (nI m)), (3, .int x), (4, .int (nI j))]) dX12_home_62 (by decide) rfl ?_
          refine r_iload C 0 dX12_home_64 rfl ?_
          refine r_if_eqB C (t := 74) dX12_home_66 (by decide) (fun c66 => ?_) (fun c66 => ?_)
          · skip
            have hmst : hmI τ p m j x := by
              rcases hx with ⟨h1, h2⟩ | ⟨i, h1, h2, h3, h4, h5⟩
              · exact .inl ⟨h1, fun c q1 q2 => by by_cases e : c = j; exact e ▸ c66; exact h2 c (by omega) q2⟩
              · exact .inr ⟨i, h1, by omega, h3, h4, fun c q1 q2 => by by_cases e : c = j; exact e ▸ c66; exact h5 c (by omega) q2⟩
            refine r_iload_n C 4 dX12_home_74 rfl rfl ?_
            refine r_istore_n C (lo' := [(3, .int x), (5, .int (bI (homeB τ p m j))), (0, .ref mb), (1, .int (nI p)), (2, .int (nI m)), (4, .int (nI j))]) dX12_home_75 rfl (by decide) rfl ?_
            refine r_iinc C (v := (nI j) - nI 1) (lo' := [(4, .int ((nI j) - nI 1)), (3, .int x), (5, .int (bI (homeB τ p m j))), (0, .ref mb), (1, .int (nI p)), (2, .int (nI m))]) 5 dX12_home_76 rfl (iI_dec _) (by decide) rfl ?_
            refine r_goto C (t := 10) dX12_home_79 (by decide) ?_
            refine V.sub [3, 4, 5, 1, 0] (lo' := [(0, .ref mb), (1, .int (nI p)), (2, .int (nI m)), (3, .int x), (4, .int ((nI j) - nI 1))]) rfl ?_
            exact ih10 j x (by omega) hmst (by omega)
          · skip
            have hmst : hmI τ p m j (nI j) := .inr ⟨j, rfl, Nat.le_refl _, by omega, c66, fun c q1 q2 => by omega⟩
            refine r_iload C 5 dX12_home_69 rfl ?_
            refine r_goto C (t := 75) dX12_home_71 (by decide) ?_
            refine r_istore_n C (lo' := [(3, .int (nI j)), (5, .int (bI (homeB τ p m j))), (0, .ref mb), (1, .int (nI p)), (2, .int (nI m)), (4, .int (nI j))]) dX12_home_75 rfl (by decide) rfl ?_
            refine r_iinc C (v := (nI j) - nI 1) (lo' := [(4, .int ((nI j) - nI 1)), (3, .int (nI j)), (5, .int (bI (homeB τ p m j))), (0, .ref mb), (1, .int (nI p)), (2, .int (nI m))]) 5 dX12_home_76 rfl (iI_dec _) (by decide) rfl ?_
            refine r_goto C (t := 10) dX12_home_79 (by decide) ?_
            refine V.sub [3, 4, 5, 1, 0] (lo' := [(0, .ref mb), (1, .int (nI p)), (2, .int (nI m)), (3, .int (nI j)), (4, .int ((nI j) - nI 1))]) rfl ?_
            exact ih10 j (nI j) (by omega) hmst (by omega)
        refine r_aload_n C 0 dX12_home_15 rfl rfl ?_
        refine r_getR C (b := (ma mb 0)) fl_X12_7 rfl hm.k (hm.r 0 rfl) dX12_home_16 ?_
        refine r_iload C 4 dX12_home_19 rfl ?_
        refine r_ialoadN C (hm.i 0 20 rfl) (hm.n 0 10 rfl) (by omega) (by omega) dX12_home_21 ?_
        refine V.ei (y := nI (un τ 0 j)) ((ht.i 0 rfl _).trans (hw.cw j (by omega)).1) ?_
        have hb1 := (hw.cw j (by omega)).2
        refine r_iload_n C 1 dX12_home_22 rfl rfl ?_
        refine r_icmp_neN C (t := 61) (by omega) (by omega) dX12_home_23 (by decide) (fun c23 => ?_) (fun c23 => ?_)
        · skip
          refine r_iconst C (v := nI 0) dX12_home_61 (by decide) ?_
          refine V.eSt (st' := [.int (bI false)]) rfl ?_
          refine V.ei (y := bI (homeB τ p m j)) (congrArg bI (by exact (decide_eq_false (by omega)).symm)) ?_
          exact jn62
        · skip
          refine r_aload_n C 0 dX12_home_26 rfl rfl ?_
          refine r_getR C (b := (ma mb 2)) fl_X12_16 rfl hm.k (hm.r 2 rfl) dX12_home_27 ?_
          refine r_iload C 4 dX12_home_30 rfl ?_
          refine r_ialoadN C (hm.i 2 20 rfl) (hm.n 2 10 rfl) (by omega) (by omega) dX12_home_32 ?_
          refine V.ei (y := nI (un τ 2 j)) ((ht.i 2 rfl _).trans (hw.cf j (by omega)).1) ?_
          have hb2 := (hw.cf j (by omega)).2
          refine r_bipush C (v := nI 30) dX12_home_33 (by decide) ?_
          refine r_iload_n C 2 dX12_home_35 rfl rfl ?_
          refine r_imulN C dX12_home_36 ?_
          refine r_bipush C (v := nI 30) dX12_home_37 (by decide) ?_
          refine r_iaddN C dX12_home_39 ?_
          refine r_icmp_geN C (t := 61) (by omega) (by omega) dX12_home_40 (by decide) (fun c40 => ?_) (fun c40 => ?_)
          · skip
            refine r_iconst C (v := nI 0) dX12_home_61 (by decide) ?_
            refine V.eSt (st' := [.int (bI false)]) rfl ?_
            refine V.ei (y := bI (homeB τ p m j)) (congrArg bI (by exact (decide_eq_false (by omega)).symm)) ?_
            exact jn62
          · skip
            refine r_aload_n C 0 dX12_home_43 rfl rfl ?_
            refine r_getR C (b := (ma mb 3)) fl_X12_19 rfl hm.k (hm.r 3 rfl) dX12_home_44 ?_
            refine r_iload C 4 dX12_home_47 rfl ?_
            refine r_ialoadN C (hm.i 3 20 rfl) (hm.n 3 10 rfl) (by omega) (by omega) dX12_home_49 ?_
            refine V.ei (y := nI (un τ 3 j)) ((ht.i 3 rfl _).trans (hw.ct j (by omega)).1) ?_
            have hb3 := (hw.ct j (by omega)).2
            refine r_bipush C (v := nI 30) dX12_home_50 (by decide) ?_
            refine r_iload_n C 2 dX12_home_52 rfl rfl ?_
            refine r_imulN C dX12_home_53 ?_
            refine r_icmp_ltN C (t := 61) (by omega) (by omega) dX12_home_54 (by decide) (fun c54 => ?_) (fun c54 => ?_)
            · skip
              refine r_iconst C (v := nI 0) dX12_home_61 (by decide) ?_
              refine V.eSt (st' := [.int (bI false)]) rfl ?_
              refine V.ei (y := bI (homeB τ p m j)) (congrArg bI (by exact (decide_eq_false (by omega)).symm)) ?_
              exact jn62
            · skip
              refine r_iconst C (v := nI 1) dX12_home_57 (by decide) ?_
              refine r_goto C (t := 62) dX12_home_58 (by decide) ?_
              refine V.eSt (st' := [.int (bI true)]) rfl ?_
              refine V.ei (y := bI (homeB τ p m j)) (congrArg bI (by exact (decide_eq_true (by omega)).symm)) ?_
              exact jn62
  refine V.sub [2, 3, 4, 1, 0] (lo' := [(0, .ref mb), (1, .int (nI p)), (2, .int (nI m)), (3, .int (-1)), (4, .int ((nI (un τ 9 9)) - (nI 1)))]) rfl ?_
  exact lp10 _ (un τ 9 9) (-1) (Nat.le_refl _) (.inl ⟨rfl, fun c h1 h2 => by omega⟩) (Nat.lt_succ_self _)
set_option maxHeartbeats 4000000 in
set_option maxRecDepth 100000 in
theorem c_X12_meets (l : Launch) (hfl : l.flags = flags0) (G : gW) (M : Mem) (mb : Nat) (τ : Mu) (hm : MOK (mK M) (mN M) (mR M) mb) (ht : TE (mI M) (mL M) mb τ) (hw : WF τ) (c b n : Nat) (hc : c < 10) (hb : b < 1036800) (hn : n ≤ 1440) : CT l yX12_meets cX12_meets 6 (some .boolean) 0 0 0 0 G M [.ref mb, .int (nI c), .int (nI b), .int (nI n)] (fun v M' => v = some (.int (bI (meetsB τ c b n))) ∧ M = M') := by
  refine CT.of hfl rfl (Nat.le_of_ble_eq_true rfl) ?_
  intro pp ee ss mm ar bw mt cd C hgX hr hini
  have hnc := hw.nc.2
  have hsh := hw.sh.2
  have hnl := hw.nl.2
  have hne := hw.ne.2
  have hng := hw.ng.2
  have hop := hw.op.2
  have hnp := hw.np.2
  refine V.eLo (lo' := [(0, .ref mb), (1, .int (nI c)), (2, .int (nI b)), (3, .int (nI n))]) rfl ?_
  refine r_iconst C (v := bI false) dX12_meets_0 (by decide) ?_
  refine r_istore C (lo' := [(4, .int (bI false)), (0, .ref mb), (1, .int (nI c)), (2, .int (nI b)), (3, .int (nI n))]) dX12_meets_1 (by decide) rfl ?_
  refine r_iconst C (v := nI 0) dX12_meets_3 (by decide) ?_
  refine r_istore C (lo' := [(5, .int (nI 0)), (4, .int (bI false)), (0, .ref mb), (1, .int (nI c)), (2, .int (nI b)), (3, .int (nI n))]) dX12_meets_4 (by decide) rfl ?_
  have lp6 : ∀ (k6 : Nat) (k : Nat) (hk : k ≤ un τ 13 13), un τ 13 13 + 1 - k < k6 → V pp l ee ({ frames := 0, cells := 0, slots := 0, locals := 0 } : Room) ss mm ar bw mt cd G (MQ bw (Ke G (fun v M' => v = some (.int (bI (meetsB τ c b n))) ∧ M = M')) ar ss 0 0 (gA G)) 6 M 0 0 6 [(0, .ref mb), (1, .int (nI c)), (2, .int (nI b)), (3, .int (nI n)), (4, .int (bI (anyN (meetB τ c b n) k))), (5, .int (nI k))] [] := by
    intro k6
    induction k6 with
    | zero => intro k hk hz6; exact absurd hz6 (Nat.not_lt_zero _)
    | succ k6 ih6 =>
      intro k hk hz6
      refine r_iload C 5 dX12_meets_6 rfl ?_
      refine r_aload_n C 0 dX12_meets_8 rfl rfl ?_
      refine r_getI C fl_X12_238 rfl hm.k dX12_meets_9 ?_
      refine V.ei (y := nI (un τ 13 13)) ((ht.s 13 rfl).trans hw.sh.1) ?_
      refine r_icmp_geN C (t := 74) (by omega) (by omega) dX12_meets_12 (by decide) (fun c12 => ?_) (fun c12 => ?_)
      · skip
        have ek : k = un τ 13 13 := by omega
        refine r_iload C 4 dX12_meets_74 rfl ?_
        exact r_zret C hr (bI_01 _) (⟨by subst ek; rfl, rfl⟩) (by first | exact Nat.zero_le _ | decide) (by first | exact Nat.zero_le _ | decide) dX12_meets_76
      · skip
        refine r_iload C 4 dX12_meets_15 rfl ?_
        have jn65 : V pp l ee ({ frames := 0, cells := 0, slots := 0, locals := 0 } : Room) ss mm ar bw mt cd G (MQ bw (Ke G (fun v M' => v = some (.int (bI (meetsB τ c b n))) ∧ M = M')) ar ss 0 0 (gA G)) 6 M 0 0 65 [(0, .ref mb), (1, .int (nI c)), (2, .int (nI b)), (3, .int (nI n)), (4, .int (bI (anyN (meetB τ c b n) k))), (5, .int (nI k))] [.int (bI (meetB τ c b n k)), .int (bI (anyN (meetB τ c b n) k))] := by
          skip
          refine r_iorB C dX12_meets_65 ?_
          refine r_istore C (lo' := [(4, .int (bI ((anyN (meetB τ c b n) k) || (meetB τ c b n k)))), (0, .ref mb), (1, .int (nI c)), (2, .int (nI b)), (3, .int (nI n)), (5, .int (nI k))]) dX12_meets_66 (by decide) rfl ?_
          refine r_iinc C (v := nI (k + 1)) (lo' := [(5, .int (nI (k + 1))), (4, .int (bI ((anyN (meetB τ c b n) k) || (meetB τ c b n k)))), (0, .ref mb), (1, .int (nI c)), (2, .int (nI b)), (3, .int (nI n))]) 5 dX12_meets_68 rfl (nI_addI k 1) (by decide) rfl ?_
          refine r_goto C (t := 6) dX12_meets_71 (by decide) ?_
          have jb4 : ((anyN (meetB τ c b n) k) || (meetB τ c b n k)) = (anyN (meetB τ c b n) (k + 1)) := by rfl
          refine V.eLo (lo' := [(5, .int (nI (k + 1))), (4, .int (bI (anyN (meetB τ c b n) (k + 1)))), (0, .ref mb), (1, .int (nI c)), (2, .int (nI b)), (3, .int (nI n))]) (congrArg (fun z_ => ([(5, .int (nI (k + 1))), (4, .int (bI z_)), (0, .ref mb), (1, .int (nI c)), (2, .int (nI b)), (3, .int (nI n))] : List (Nat × Value))) jb4) ?_
          refine V.sub [2, 3, 4, 5, 1, 0] (lo' := [(0, .ref mb), (1, .int (nI c)), (2, .int (nI b)), (3, .int (nI n)), (4, .int (bI (anyN (meetB τ c b n) (k + 1)))), (5, .int (nI (k + 1)))]) rfl ?_
          exact ih6 (k + 1) (by omega) (by omega)
        refine r_aload_n C 0 dX12_meets_17 rfl rfl ?_
        refine r_getR C (b := (ma mb 10)) fl_X12_37 rfl hm.k (hm.r 10 rfl) dX12_meets_18 ?_
        refine r_iload C 5 dX12_meets_21 rfl ?_
        refine r_ialoadN C (hm.i 10 20 rfl) (hm.n 10 40 rfl) (by omega) (by omega) dX12_meets_23 ?_
        refine V.ei (y := nI (un τ 10 k)) ((ht.i 10 rfl _).trans ((hw.sc k (by omega)).1).1) ?_
        have hb0 := ((hw.sc k (by omega)).1).2
        refine r_iload_n C 1 dX12_meets_24 rfl rfl ?_
        refine r_icmp_neN C (t := 64) (by omega) (by omega) dX12_meets_25 (by decide) (fun c25 => ?_) (fun c25 => ?_)
        · skip
          refine r_iconst C (v := nI 0) dX12_meets_64 (by decide) ?_
          refine V.eSt (st' := [.int (bI false), .int (bI (anyN (meetB τ c b n) k))]) rfl ?_
          refine V.ei (y := bI (meetB τ c b n k)) (congrArg bI (by exact (decide_eq_false (by omega)).symm)) ?_
          exact jn65
        · skip
          refine r_iload_n C 2 dX12_meets_28 rfl rfl ?_
          refine r_aload_n C 0 dX12_meets_29 rfl rfl ?_
          refine r_getR C (b := (ma mb 11)) fl_X12_40 rfl hm.k (hm.r 11 rfl) dX12_meets_30 ?_
          refine r_iload C 5 dX12_meets_33 rfl ?_
          refine r_ialoadN C (hm.i 11 20 rfl) (hm.n 11 40 rfl) (by omega) (by omega) dX12_meets_35 ?_
          refine V.ei (y := nI (un τ 11 k)) ((ht.i 11 rfl _).trans (hw.sb k (by omega)).1) ?_
          have hb1 := (hw.sb k (by omega)).2
          refine r_aload_n C 0 dX12_meets_36 rfl rfl ?_
          refine r_getR C (b := (ma mb 12)) fl_X12_43 rfl hm.k (hm.r 12 rfl) dX12_meets_37 ?_
          refine r_iload C 5 dX12_meets_40 rfl ?_
          refine r_ialoadN C (hm.i 12 20 rfl) (hm.n 12 40 rfl) (by omega) (by omega) dX12_meets_42 ?_
          refine V.ei (y := nI (un τ 12 k)) ((ht.i 12 rfl _).trans ((hw.sl k (by omega)).1).1) ?_
          have hb2 := ((hw.sl k (by omega)).1).2
          refine r_iaddN C dX12_meets_43 ?_
          refine r_icmp_geN C (t := 64) (by omega) (by omega) dX12_meets_44 (by decide) (fun c44 => ?_) (fun c44 => ?_)
          · skip
            refine r_iconst C (v := nI 0) dX12_meets_64 (by decide) ?_
            refine V.eSt (st' := [.int (bI false), .int (bI (anyN (meetB τ c b n) k))]) rfl ?_
            refine V.ei (y := bI (meetB τ c b n k)) (congrArg bI (by exact (decide_eq_false (by omega)).symm)) ?_
            exact jn65
          · skip
            refine r_aload_n C 0 dX12_meets_47 rfl rfl ?_
            refine r_getR C (b := (ma mb 11)) fl_X12_40 rfl hm.k (hm.r 11 rfl) dX12_meets_48 ?_
            refine r_iload C 5 dX12_meets_51 rfl ?_
            refine r_ialoadN C (hm.i 11 20 rfl) (hm.n 11 40 rfl) (by omega) (by omega) dX12_meets_53 ?_
            refine V.ei (y := nI (un τ 11 k)) ((ht.i 11 rfl _).trans (hw.sb k (by omega)).1) ?_
            have hb3 := (hw.sb k (by omega)).2
            refine r_iload_n C 2 dX12_meets_54 rfl rfl ?_
            refine r_iload_n C 3 dX12_meets_55 rfl rfl ?_
            refine r_iaddN C dX12_meets_56 ?_
            refine r_icmp_geN C (t := 64) (by omega) (by omega) dX12_meets_57 (by decide) (fun c57 => ?_) (fun c57 => ?_)
            · skip
              refine r_iconst C (v := nI 0) dX12_meets_64 (by decide) ?_
              refine V.eSt (st' := [.int (bI false), .int (bI (anyN (meetB τ c b n) k))]) rfl ?_
              refine V.ei (y := bI (meetB τ c b n k)) (congrArg bI (by exact (decide_eq_false (by omega)).symm)) ?_
              exact jn65
            · skip
              refine r_iconst C (v := nI 1) dX12_meets_60 (by decide) ?_
              refine r_goto C (t := 65) dX12_meets_61 (by decide) ?_
              refine V.eSt (st' := [.int (bI true), .int (bI (anyN (meetB τ c b n) k))]) rfl ?_
              refine V.ei (y := bI (meetB τ c b n k)) (congrArg bI (by exact (decide_eq_true (by omega)).symm)) ?_
              exact jn65
  refine V.sub [2, 3, 4, 5, 1, 0] (lo' := [(0, .ref mb), (1, .int (nI c)), (2, .int (nI b)), (3, .int (nI n)), (4, .int (bI false)), (5, .int (nI 0))]) rfl ?_
  exact lp6 _ 0 (Nat.zero_le _) (Nat.lt_succ_self _)
