/-! THE CLASS: leave taken -/
section Adv
variable {τ : Mu} {p : Nat}
def stD (τ : Mu) (p d k : Nat) : Nat × Nat := tkK τ p d (tkD τ p d (tk τ p d)) k
def quL (τ : Mu) (p e k : Nat) : Prop := un τ 15 k = e ∧ un τ 0 (un τ 14 k) = p
theorem adv1 {d K : Nat} : ∀ {j : Nat}, (∀ k, K ≤ k → k < K + j → ¬ quL τ p d k) → stD τ p d (K + j) = stD τ p d K
  | 0, _ => rfl
  | j + 1, h => by
    have ih := adv1 (d := d) (K := K) (j := j) (fun k a b => h k a (by omega))
    have hn := h (K + j) (by omega) (by omega)
    show (if un τ 15 (K + j) = d ∧ un τ 0 (un τ 14 (K + j)) = p ∧ 10 ≤ (stD τ p d (K + j)).1 + (stD τ p d (K + j)).2 then ((stD τ p d (K + j)).1 - (10 - min (stD τ p d (K + j)).2 10), (stD τ p d (K + j)).2 - min (stD τ p d (K + j)).2 10) else stD τ p d (K + j)) = _
    rw [if_neg (fun q => hn ⟨q.1, q.2.1⟩)]
    exact ih
theorem adv1' {d K K' : Nat} (hk : K ≤ K') (h : ∀ k, K ≤ k → k < K' → ¬ quL τ p d k) : stD τ p d K' = stD τ p d K := by
  have := adv1 (τ := τ) (p := p) (d := d) (K := K) (j := K' - K) (fun k a b => h k a (by omega))
  rw [show K + (K' - K) = K' by omega] at this
  exact this
theorem tk_n (d : Nat) : tk τ p (d + 1) = stD τ p d (un τ 17 17) := rfl
theorem tkD_id {d : Nat} (h : d % 30 ≠ 0) (s : Nat × Nat) : tkD τ p d s = s := by
  unfold tkD tkH
  rw [if_neg (by omega), if_neg (by omega), if_neg (by omega), if_neg (by omega), Nat.add_zero]
theorem adv3 {d0 : Nat} : ∀ {j : Nat}, (∀ e, d0 ≤ e → e < d0 + j → e % 30 ≠ 0 ∧ ∀ k, k < un τ 17 17 → ¬ quL τ p e k) → tk τ p (d0 + j) = tk τ p d0
  | 0, _ => rfl
  | j + 1, h => by
    have ih := adv3 (d0 := d0) (j := j) (fun e a b => h e a (by omega))
    obtain ⟨h1, h2⟩ := h (d0 + j) (by omega) (by omega)
    rw [show d0 + (j + 1) = (d0 + j) + 1 by omega, tk_n, adv1' (Nat.zero_le _) (fun k _ b => h2 k b)]
    show tkD τ p (d0 + j) (tk τ p (d0 + j)) = _
    rw [tkD_id h1, ih]
theorem adv3' {d0 e0 : Nat} (hd : d0 ≤ e0) (h : ∀ e, d0 ≤ e → e < e0 → e % 30 ≠ 0 ∧ ∀ k, k < un τ 17 17 → ¬ quL τ p e k) : tk τ p e0 = tk τ p d0 := by
  have := adv3 (τ := τ) (p := p) (d0 := d0) (j := e0 - d0) (fun e a b => h e a (by omega))
  rw [show d0 + (e0 - d0) = e0 by omega] at this
  exact this
/-- the leaves of a person, by rising days, of one day as they were told -/
def EnL (τ : Mu) (p nl : Nat) (ln : Nat → Nat) : Prop := (∀ i, i < nl → ln i < un τ 17 17 ∧ un τ 0 (un τ 14 (ln i)) = p) ∧ (∀ i j, i < j → j < nl → un τ 15 (ln i) < un τ 15 (ln j) ∨ (un τ 15 (ln i) = un τ 15 (ln j) ∧ ln i < ln j)) ∧ ∀ k, k < un τ 17 17 → un τ 0 (un τ 14 k) = p → ∃ i, i < nl ∧ ln i = k
def stE (τ : Mu) (p nl : Nat) (ln : Nat → Nat) (j E : Nat) : Nat × Nat := if j < nl ∧ un τ 15 (ln j) < E then stD τ p (un τ 15 (ln j)) (ln j) else tk τ p E
theorem adv {nl : Nat} {ln : Nat → Nat} (hl : EnL τ p nl ln) {first d K E j : Nat} (h30 : first % 30 = 0) (hd : first ≤ d) (hE : d < E) (hE2 : E ≤ first + 30) (hK : K ≤ un τ 17 17)
    (hlo : ∀ i, i < j → i < nl → un τ 15 (ln i) < d ∨ (un τ 15 (ln i) = d ∧ ln i < K)) (hhi : ∀ i, j ≤ i → i < nl → d < un τ 15 (ln i) ∨ (d = un τ 15 (ln i) ∧ K ≤ ln i)) : stD τ p d K = stE τ p nl ln j E := by
  have noq : ∀ e k, k < un τ 17 17 → quL τ p e k → (d < e ∨ (d = e ∧ K ≤ k)) → ∃ i, i < nl ∧ j ≤ i ∧ ln i = k ∧ un τ 15 (ln i) = e := by
    intro e k hk hq hp
    obtain ⟨i, h1, h2⟩ := hl.2.2 k hk hq.2
    refine ⟨i, h1, ?_, h2, by rw [h2]; exact hq.1⟩
    apply Classical.byContradiction
    intro z
    have g1 := hlo i (by omega) h1
    rw [h2, hq.1] at g1
    omega
  have mono : ∀ i, j ≤ i → i < nl → un τ 15 (ln j) < un τ 15 (ln i) ∨ (un τ 15 (ln j) = un τ 15 (ln i) ∧ ln j ≤ ln i) := by
    intro i h1 h2
    by_cases e : i = j
    · subst e; exact .inr ⟨rfl, Nat.le_refl _⟩
    · rcases hl.2.1 j i (by omega) h2 with g | g
      · exact .inl g
      · exact .inr ⟨g.1, by omega⟩
  unfold stE
  by_cases hc : j < nl ∧ un τ 15 (ln j) < E
  · rw [if_pos hc]
    rcases hhi j (Nat.le_refl _) hc.1 with g | ⟨g1, g2⟩
    · have e1 : stD τ p d K = tk τ p (d + 1) := by
        rw [tk_n]
        refine (adv1' hK (fun k a b q => ?_)).symm
        obtain ⟨i, i1, i2, i3, i4⟩ := noq d k b q (.inr ⟨rfl, a⟩)
        have := mono i i2 i1
        omega
      have e2 : tk τ p (un τ 15 (ln j)) = tk τ p (d + 1) := adv3' (by omega) (fun e a b => ⟨by omega, fun k hk q => by
        obtain ⟨i, i1, i2, i3, i4⟩ := noq e k hk q (.inl (by omega))
        have := mono i i2 i1
        omega⟩)
      have e3 : stD τ p (un τ 15 (ln j)) (ln j) = stD τ p (un τ 15 (ln j)) 0 := adv1' (Nat.zero_le _) (fun k _ b q => by
        have hj := (hl.1 j hc.1).1
        obtain ⟨i, i1, i2, i3, i4⟩ := noq (un τ 15 (ln j)) k (by omega) q (.inl g)
        have := mono i i2 i1
        omega)
      rw [e1, e3, ← e2]
      exact (tkD_id (by omega) _).symm
    · rw [← g1]
      refine (adv1' g2 (fun k a b q => ?_)).symm
      have hj := (hl.1 j hc.1).1
      obtain ⟨i, i1, i2, i3, i4⟩ := noq d k (by omega) q (.inr ⟨rfl, a⟩)
      have := mono i i2 i1
      omega
  · rw [if_neg hc]
    have none : ∀ e k, k < un τ 17 17 → quL τ p e k → e < E → (d < e ∨ (d = e ∧ K ≤ k)) → False := by
      intro e k hk q he hp
      obtain ⟨i, i1, i2, i3, i4⟩ := noq e k hk q hp
      have hj : j < nl := by omega
      have := mono i i2 i1
      exact hc ⟨hj, by omega⟩
    have e1 : stD τ p d K = tk τ p (d + 1) := by
      rw [tk_n]
      exact (adv1' hK (fun k a b q => none d k b q hE (.inr ⟨rfl, a⟩))).symm
    rw [e1]
    exact (adv3' (by omega) (fun e a b => ⟨by omega, fun k hk q => none e k hk q b (.inl (by omega))⟩)).symm
theorem st_take {d k : Nat} (hq : quL τ p d k) : stD τ p d (k + 1) = if 10 ≤ (stD τ p d k).1 + (stD τ p d k).2 then ((stD τ p d k).1 - (10 - min (stD τ p d k).2 10), (stD τ p d k).2 - min (stD τ p d k).2 10) else stD τ p d k := by
  show (if un τ 15 k = d ∧ un τ 0 (un τ 14 k) = p ∧ 10 ≤ (stD τ p d k).1 + (stD τ p d k).2 then ((stD τ p d k).1 - (10 - min (stD τ p d k).2 10), (stD τ p d k).2 - min (stD τ p d k).2 10) else stD τ p d k) = _
  exact if_cg ⟨fun q => q.2.2, fun q => ⟨hq.1, hq.2, q⟩⟩
theorem ltN_st {k : Nat} (hp : un τ 0 (un τ 14 k) = p) : ltN τ k = if 10 ≤ (stD τ p (un τ 15 k) k).1 + (stD τ p (un τ 15 k) k).2 then 1 else 0 := by
  unfold ltN
  rw [hp]
  rfl
end Adv
/-- the leaves of a person at h, la their objects -/
def PlL (τ : Mu) (p : Nat) (G : gW) (M : Mem) (h : Nat → Nat) (nl : Nat) (ln la : Nat → Nat) : Prop := LI G M 8 (h 2) nl la ∧ EnL τ p nl ln ∧ (∀ i, i < nl → mI M (la i) 1 = nI (un τ 15 (ln i))) ∧ ∀ i j, i < nl → j < nl → la i = la j → i = j
/-- where leaves lie -/
def LaA (nl : Nat) (la : Nat → Nat) (a : Nat) : Prop := ∃ i, i < nl ∧ a = la i
theorem pig {f : Nat → Nat} : ∀ {m n : Nat}, (∀ i j, i < j → j < m → f i ≠ f j) → (∀ i, i < m → f i < n) → m ≤ n
  | 0, _, _, _ => Nat.zero_le _
  | m + 1, 0, _, h => absurd (h 0 (by omega)) (Nat.not_lt_zero _)
  | m + 1, n + 1, hi, h => by
    have g := pig (f := fun i => if f i < f m then f i else f i - 1) (m := m) (n := n) (fun i j h1 h2 => by
      have a1 := hi i j h1 (by omega)
      have a2 := hi i m (by omega) (by omega)
      have a3 := hi j m h2 (by omega)
      show (if f i < f m then f i else f i - 1) ≠ (if f j < f m then f j else f j - 1)
      split <;> split <;> omega) (fun i h1 => by
      have a2 := hi i m h1 (by omega)
      have a4 := h i (by omega)
      have a5 := h m (by omega)
      show (if f i < f m then f i else f i - 1) < n
      split <;> omega)
    omega
theorem EnL.le {τ : Mu} {p nl : Nat} {ln : Nat → Nat} (h : EnL τ p nl ln) (hw : WF τ) : nl ≤ 30 := by
  have inj : ∀ i j, i < j → j < nl → ln i ≠ ln j := fun i j h1 h2 e => by
    rcases h.2.1 i j h1 h2 with g | g
    · rw [e] at g; omega
    · omega
  have key : ∀ n m, (∀ i, i < m → ln i < n) → (∀ i j, i < j → j < m → ln i ≠ ln j) → m ≤ n := by
    intro n m h1 h2
    exact pig h2 h1
  have := key (un τ 17 17) nl (fun i hi => (h.1 i hi).1) inj
  have := hw.nl.2
  omega

