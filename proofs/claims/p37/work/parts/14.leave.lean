/-! THE REFERENCE: who works, where, what leave is taken -/
theorem if_cg {α : Type} {b c : Prop} [Decidable b] [Decidable c] {x y : α} (h : b ↔ c) : (if b then x else y) = (if c then x else y) := by
  by_cases z : b
  · rw [if_pos z, if_pos (h.mp z)]
  · rw [if_neg z, if_neg (fun q => z (h.mpr q))]
/-- what changes: the arrays and numbers of the list, no shape, nothing outside -/
def fOut (L : List Nat) (mb : Nat) (M M' : Mem) : Prop := mK M' = mK M ∧ mN M' = mN M ∧ mR M' = mR M ∧ (∀ a, (a < mb ∨ mb + 58 < a) → mI M' a = mI M a ∧ mL M' a = mL M a) ∧ ∀ k, k < 70 → L.contains k = false → (mkd.getD k 0 = 0 → mI M' mb k = mI M mb k) ∧ (mkd.getD k 0 ≠ 0 → mI M' (ma mb k) = mI M (ma mb k) ∧ mL M' (ma mb k) = mL M (ma mb k))
theorem fOut.rf (L : List Nat) (mb : Nat) (M : Mem) : fOut L mb M M := ⟨rfl, rfl, rfl, fun _ _ => ⟨rfl, rfl⟩, fun _ _ _ => ⟨fun _ => rfl, fun _ => ⟨rfl, rfl⟩⟩⟩
theorem fOut.tr {L : List Nat} {mb : Nat} {M M1 M2 : Mem} (h : fOut L mb M M1) (g : fOut L mb M1 M2) : fOut L mb M M2 :=
  ⟨g.1.trans h.1, g.2.1.trans h.2.1, g.2.2.1.trans h.2.2.1, fun a q => ⟨(g.2.2.2.1 a q).1.trans (h.2.2.2.1 a q).1, (g.2.2.2.1 a q).2.trans (h.2.2.2.1 a q).2⟩, fun k hk hL => ⟨fun z => ((g.2.2.2.2 k hk hL).1 z).trans ((h.2.2.2.2 k hk hL).1 z), fun z => ⟨((g.2.2.2.2 k hk hL).2 z).1.trans ((h.2.2.2.2 k hk hL).2 z).1, ((g.2.2.2.2 k hk hL).2 z).2.trans ((h.2.2.2.2 k hk hL).2 z).2⟩⟩⟩
theorem fOut.mono {L L' : List Nat} {mb : Nat} {M M' : Mem} (h : fOut L mb M M') (hL : (List.range 70).all (fun k => L'.contains k || !L.contains k) = true) : fOut L' mb M M' :=
  ⟨h.1, h.2.1, h.2.2.1, h.2.2.2.1, fun k hk hl => h.2.2.2.2 k hk (by have h1 := List.all_eq_true.mp hL k (List.mem_range.mpr hk); rw [hl] at h1; simpa using h1)⟩
theorem fOut.te {L : List Nat} {mb : Nat} {M M' : Mem} {τ : Mu} (h : fOut L mb M M') (hL : L.all (fun k => !told k) = true) (ht : TE (mI M) (mL M) mb τ) : TE (mI M') (mL M') mb τ := by
  intro k hk
  have h7 : k < 70 := by unfold told at hk; simp only [Bool.and_eq_true, decide_eq_true_eq] at hk; omega
  have hn : L.contains k = false := by
    cases hc : L.contains k with
    | false => rfl
    | true => have := List.all_eq_true.mp hL k (by simpa using hc); rw [hk] at this; cases this
  have h2 := ht k hk
  have h3 := h.2.2.2.2 k h7 hn
  by_cases z : mkd.getD k 0 = 0
  · rw [if_pos z] at h2 ⊢; rw [h3.1 z]; exact h2
  · rw [if_neg z] at h2 ⊢; rw [(h3.2 z).1, (h3.2 z).2]; exact h2
theorem fOut.i {L : List Nat} {mb : Nat} {M M' : Mem} (h : fOut L mb M M') (k : Nat) (hk : (decide (k < 70) && !L.contains k && (mkd.getD k 0 != 0)) = true) : mI M' (ma mb k) = mI M (ma mb k) := by
  simp only [Bool.and_eq_true, decide_eq_true_eq, bne_iff_ne, Bool.not_eq_true'] at hk
  exact ((h.2.2.2.2 k hk.1.1 hk.1.2).2 hk.2).1
theorem fOut.l {L : List Nat} {mb : Nat} {M M' : Mem} (h : fOut L mb M M') (k : Nat) (hk : (decide (k < 70) && !L.contains k && (mkd.getD k 0 != 0)) = true) : mL M' (ma mb k) = mL M (ma mb k) := by
  simp only [Bool.and_eq_true, decide_eq_true_eq, bne_iff_ne, Bool.not_eq_true'] at hk
  exact ((h.2.2.2.2 k hk.1.1 hk.1.2).2 hk.2).2
def anyN (f : Nat → Bool) : Nat → Bool
  | 0 => false
  | n + 1 => anyN f n || f n
theorem anyN_iff {f : Nat → Bool} {n : Nat} : anyN f n = true ↔ ∃ k, k < n ∧ f k = true := by
  induction n with
  | zero => exact ⟨fun h => (by cases h), fun ⟨k, h, _⟩ => absurd h (Nat.not_lt_zero _)⟩
  | succ n ih =>
    show (anyN f n || f n) = true ↔ _
    rw [Bool.or_eq_true, ih]
    constructor
    · rintro (⟨k, h1, h2⟩ | h)
      · exact ⟨k, by omega, h2⟩
      · exact ⟨n, by omega, h⟩
    · rintro ⟨k, h1, h2⟩
      by_cases e : k = n
      · exact .inr (e ▸ h2)
      · exact .inl ⟨k, by omega, h2⟩
theorem fst_none {f : Nat → Bool} : ∀ {n : Nat}, (∀ k, k < n → f k = false) → fstN f n = none
  | 0, _ => rfl
  | n + 1, h => by
    show (match fstN f n with | some j => some j | none => if f n = true then some n else none) = none
    rw [fst_none (fun k hk => h k (by omega)), h n (by omega)]; rfl
theorem fst_some {f : Nat → Bool} {j : Nat} (hj : f j = true) (hb : ∀ k, k < j → f k = false) : ∀ {n : Nat}, j < n → fstN f n = some j
  | 0, h => absurd h (Nat.not_lt_zero _)
  | n + 1, h => by
    show (match fstN f n with | some j => some j | none => if f n = true then some n else none) = some j
    by_cases e : j = n
    · subst e; rw [fst_none hb, hj]; rfl
    · rw [fst_some hj hb (n := n) (by omega)]
theorem fst_lt {f : Nat → Bool} {j : Nat} : ∀ {n : Nat}, fstN f n = some j → j < n ∧ f j = true
  | 0, h => by cases h
  | n + 1, h => by
    have h1 : (match fstN f n with | some j => some j | none => if f n = true then some n else none) = some j := h
    cases h2 : fstN f n with
    | some i => rw [h2] at h1; cases h1; have := fst_lt h2; exact ⟨by omega, this.2⟩
    | none =>
      rw [h2] at h1
      by_cases z : f n = true
      · simp only [if_pos z] at h1; cases h1; exact ⟨by omega, z⟩
      · simp only [if_neg z] at h1; cases h1
def workB (τ : Mu) (p d c : Nat) : Bool := decide (un τ 0 c = p ∧ un τ 2 c ≤ d ∧ d ≤ un τ 3 c)
def worksB (τ : Mu) (p d : Nat) : Bool := anyN (workB τ p d) (un τ 9 9)
def homeB (τ : Mu) (p m c : Nat) : Bool := decide (un τ 0 c = p ∧ un τ 2 c < 30 * m + 30 ∧ 30 * m ≤ un τ 3 c)
def homeN (τ : Mu) (p m : Nat) : Nat := match fstN (homeB τ p m) (un τ 9 9) with | some c => un τ 1 c | none => 0
theorem homeN_le {τ : Mu} (hw : WF τ) (p m : Nat) : homeN τ p m ≤ 2 := by
  unfold homeN
  cases h : fstN (homeB τ p m) (un τ 9 9) with
  | none => exact Nat.zero_le _
  | some c => exact (hw.cp c (fst_lt h).1).2
/-- the lowest of those from k on, as the reference keeps it -/
def lowI (f : Nat → Bool) (n k : Nat) (x : Int32) : Prop := (x = -1 ∧ ∀ c, k ≤ c → c < n → f c = false) ∨ ∃ j, x = nI j ∧ k ≤ j ∧ j < n ∧ f j = true ∧ ∀ c, k ≤ c → c < j → f c = false
theorem lowI.t {f : Nat → Bool} {n j : Nat} (hj : j < n) (q : f j = true) : lowI f n j (nI j) := .inr ⟨j, rfl, Nat.le_refl _, hj, q, fun c q1 q2 => by omega⟩
theorem lowI.e {f : Nat → Bool} {n i : Nat} {x : Int32} (h : lowI f n 0 x) (hi : fstN f n = some i) : x = nI i := by
  rcases h with ⟨h1, h2⟩ | ⟨j, h1, h2, h3, h4, h5⟩
  · rw [fst_none (fun k hk => h2 k (Nat.zero_le _) hk)] at hi; cases hi
  · rw [fst_some h4 (fun k hk => h5 k (Nat.zero_le _) hk) h3] at hi; cases hi; exact h1
def meetB (τ : Mu) (c b n k : Nat) : Bool := decide (un τ 10 k = c ∧ b < un τ 11 k + un τ 12 k ∧ un τ 11 k < b + n)
def meetsB (τ : Mu) (c b n : Nat) : Bool := anyN (meetB τ c b n) (un τ 13 13)
/-- leave: what there is (new, carried) behind k tellings of a day, when a day begins, behind all days ahead -/
def tkK (τ : Mu) (p d : Nat) (s : Nat × Nat) : Nat → Nat × Nat
  | 0 => s
  | k + 1 => if un τ 15 k = d ∧ un τ 0 (un τ 14 k) = p ∧ 10 ≤ (tkK τ p d s k).1 + (tkK τ p d s k).2 then ((tkK τ p d s k).1 - (10 - min (tkK τ p d s k).2 10), (tkK τ p d s k).2 - min (tkK τ p d s k).2 10) else tkK τ p d s k
def tkH (τ : Mu) (p d h : Nat) : Nat := h + (if d % 30 = 0 ∧ 0 < d ∧ worksB τ p (d - 1) = true then un τ 18 18 else 0)
def tkD (τ : Mu) (p d : Nat) (s : Nat × Nat) : Nat × Nat := (if d = 360 then 0 else tkH τ p d s.1, if d = 30 * (12 + un τ 20 20) then 0 else if d = 360 then min (tkH τ p d s.1) (un τ 19 19) else s.2)
def tk (τ : Mu) (p : Nat) : Nat → Nat × Nat
  | 0 => (0, 0)
  | d + 1 => tkK τ p d (tkD τ p d (tk τ p d)) (un τ 17 17)
def leftN (τ : Mu) (p d : Nat) : Nat := (tkD τ p d (tk τ p d)).1 + (tkD τ p d (tk τ p d)).2
def ltS (τ : Mu) (p d k : Nat) : Nat × Nat := tkK τ p d (tkD τ p d (tk τ p d)) k
def ltN (τ : Mu) (k : Nat) : Nat := if 10 ≤ (ltS τ (un τ 0 (un τ 14 k)) (un τ 15 k) k).1 + (ltS τ (un τ 0 (un τ 14 k)) (un τ 15 k) k).2 then 1 else 0
theorem ltN_le (τ : Mu) (k : Nat) : ltN τ k ≤ 1 := by unfold ltN; split <;> omega
theorem tkK_le (τ : Mu) (p d : Nat) (s : Nat × Nat) : ∀ k, (tkK τ p d s k).1 ≤ s.1 ∧ (tkK τ p d s k).2 ≤ s.2
  | 0 => ⟨Nat.le_refl _, Nat.le_refl _⟩
  | k + 1 => by
    have h := tkK_le τ p d s k
    unfold tkK
    split
    · exact ⟨Nat.le_trans (Nat.sub_le _ _) h.1, Nat.le_trans (Nat.sub_le _ _) h.2⟩
    · exact h
theorem tkD_le {τ : Mu} (hw : WF τ) (p d : Nat) (s : Nat × Nat) : (tkD τ p d s).1 ≤ s.1 + 50 ∧ (tkD τ p d s).2 ≤ max s.2 500 := by
  have h1 := hw.rt.2
  have h2 := hw.ca.2
  have h3 : tkH τ p d s.1 ≤ s.1 + 50 := by unfold tkH; split <;> omega
  unfold tkD
  refine ⟨?_, ?_⟩
  · show (if d = 360 then 0 else tkH τ p d s.1) ≤ _
    split <;> omega
  · show (if d = 30 * (12 + un τ 20 20) then 0 else if d = 360 then min (tkH τ p d s.1) (un τ 19 19) else s.2) ≤ _
    split
    · omega
    · split <;> omega
theorem tk_le {τ : Mu} (hw : WF τ) (p : Nat) : ∀ d, (tk τ p d).1 ≤ 50 * d ∧ (tk τ p d).2 ≤ 500
  | 0 => ⟨Nat.le_refl _, Nat.zero_le _⟩
  | d + 1 => by
    have h := tk_le hw p d
    have h1 := tkD_le hw p d (tk τ p d)
    have h2 := tkK_le τ p d (tkD τ p d (tk τ p d)) (un τ 17 17)
    show (tkK τ p d (tkD τ p d (tk τ p d)) (un τ 17 17)).1 ≤ _ ∧ (tkK τ p d (tkD τ p d (tk τ p d)) (un τ 17 17)).2 ≤ _
    omega

