/-! THE CLASS: the world -/
def hO (α : Nat → Nat) (p o : Nat) : Nat := α (29 + 57 * p + o)
def bO (α : Nat → Nat) (p o : Nat) : Nat := α (29 + 57 * p + (15 + o))
def gO (α : Nat → Nat) (q o : Nat) : Nat := α (371 + 35 * q + o)
def eO (α : Nat → Nat) (o : Nat) : Nat := α (4 + o)
def cO (α : Nat → Nat) (c o : Nat) : Nat := α (1000 + 10 * c + o)
def aO (α : Nat → Nat) (g o : Nat) : Nat := α (1100 + 2 * g + o)
def lO (α : Nat → Nat) (k : Nat) : Nat := α (1200 + k)
def yO (α : Nat → Nat) (k : Nat) : Nat := α (1300 + k)
/-- the codes in use -/
def LV (τ : Mu) (k : Nat) : Prop := k < 476 ∨ (1000 ≤ k ∧ k < 1000 + 10 * un τ 9 9) ∨ (1100 ≤ k ∧ k < 1100 + 2 * un τ 44 44) ∨ (1200 ≤ k ∧ k < 1200 + un τ 17 17) ∨ (1300 ≤ k ∧ k < 1300 + un τ 51 51)
def INJ (τ : Mu) (α : Nat → Nat) : Prop := ∀ i j, LV τ i → LV τ j → α i = α j → i = j
/-- the lists -/
def LC (k : Nat) : Prop := k = 1 ∨ k = 27 ∨ k = 28 ∨ ∃ p o, p < 6 ∧ 1 ≤ o ∧ o < 4 ∧ k = 29 + 57 * p + o
/-- a person's lists -/
def PW (τ : Mu) (p : Nat) (G : gW) (α : Nat → Nat) (M : Mem) : Prop := ∃ nc cn nl ln ng gn, EnN (fun c => un τ 0 c = p) (un τ 9 9) nc cn ∧ EnL τ p nl ln ∧ EnG τ p ng gn ∧ LI G M 5 (hO α p 1) nc (fun i => cO α (cn i) 0) ∧ LI G M 8 (hO α p 2) nl (fun i => lO α (ln i)) ∧ LI G M 7 (hO α p 3) ng (fun i => aO α (gn i) 0)
/-- the shape -/
def WS (τ : Mu) (G : gW) (α : Nat → Nat) (M : Mem) : Prop :=
  INJ τ α ∧ Blk tbX (mK M) (mN M) (mR M) α ∧ (∀ p, p < 6 → Blk tbPe (mK M) (mN M) (mR M) (hO α p) ∧ mR M (α 2) p = some (hO α p 0)) ∧ (∀ q, q < 3 → Blk tbPl (mK M) (mN M) (mR M) (gO α q) ∧ mR M (α 3) q = some (gO α q 0)) ∧
  (∀ c, c < un τ 9 9 → Blk tbCo (mK M) (mN M) (mR M) (cO α c)) ∧ (∀ g, g < un τ 44 44 → Blk tbGa (mK M) (mN M) (mR M) (aO α g)) ∧ (∀ k, k < un τ 17 17 → mK M (lO α k) = 9 ∧ mR M (lO α k) 0 = some (cO α (un τ 14 k) 0)) ∧ (∀ k, k < un τ 51 51 → mK M (yO α k) = 10) ∧
  LI G M 5 (α 1) (un τ 9 9) (fun c => cO α c 0) ∧ LI G M 7 (α 27) (un τ 44 44) (fun g => aO α g 0) ∧ LI G M 9 (α 28) (un τ 51 51) (yO α) ∧ (∀ p, p < 6 → PW τ p G α M) ∧
  ∀ i j, LC i → LC j → i ≠ j → ∀ d, mR M (α i) 1 = some d → mR M (α j) 1 = some d → d = gS G 0
def stV (τ : Mu) (p : Nat) : Nat → Option Int32 := fun m => if 0 ≤ τ.1 36 (24 * p + m) then some (τ.1 36 (24 * p + m)) else none
def ptV (τ : Mu) (p : Nat) : Nat → Option Int32 := fun m => if 0 ≤ τ.1 37 (24 * p + m) then some (τ.1 37 (24 * p + m)) else none
def crV (τ : Mu) (q : Nat) : Nat → Option Int32 := fun m => if 0 ≤ τ.1 31 (24 * q + m) then some (τ.1 31 (24 * q + m)) else none
def clV (τ : Mu) (q : Nat) : Nat → Option Int32 := fun m => if 0 ≤ τ.1 31 (24 * q + m) then some (τ.1 32 (24 * q + m)) else none
theorem lsV_l {V : Nat → Option Int32} {f : Nat → Bool} {g : Nat → Int32} (h : ∀ m, V m = if f m = true then some (g m) else none) : ∀ n, lsV V n = match lstN f n with | none => 0 | some k => g k
  | 0 => rfl
  | n + 1 => by
    show (match V n with | some v => v | none => lsV V n) = match (if f n = true then some n else lstN f n) with | none => 0 | some k => g k
    rw [h n]
    by_cases q : f n = true
    · rw [if_pos q, if_pos q]
    · rw [if_neg q, if_neg q]; exact lsV_l h n
theorem hv_nn {x : Int32} : decide (0 ≤ x) = true ↔ 0 ≤ x := decide_eq_true_iff
theorem un_ofn {τ : Mu} {k i b : Nat} (h : τ.1 k i = -1 ∨ okN τ k i b) (h0 : 0 ≤ τ.1 k i) : τ.1 k i = nI (un τ k i) := by
  rcases h with h | h
  · rw [h] at h0; exact absurd h0 (by decide)
  · exact h.1
theorem stN_V {τ : Mu} (hw : WF τ) {p m : Nat} (hp : p < 6) (hm : m < 24) : lsV (stV τ p) (m + 1) = nI (stN τ p m) := by
  rw [lsV_l (f := hasB τ 1 (24 * p)) (g := fun k => τ.1 36 (24 * p + k)) (fun k => by
    show stV τ p k = if decide (0 ≤ τ.1 36 (24 * p + k)) = true then _ else none
    unfold stV
    by_cases q : 0 ≤ τ.1 36 (24 * p + k)
    · rw [if_pos q, if_pos (decide_eq_true q)]
    · rw [if_neg q, if_neg (by rw [decide_eq_false q]; decide)])]
  unfold stN lastO
  cases e : lstN (hasB τ 1 (24 * p)) (m + 1) with
  | none => rfl
  | some k =>
    have h := lst_lt e
    exact un_ofn (hw.st (24 * p + k) (by omega)) (of_decide_eq_true h.2)
theorem ptN_V {τ : Mu} (hw : WF τ) {p m : Nat} (hp : p < 6) (hm : m < 24) : lsV (ptV τ p) (m + 1) = nI (ptN τ p m) := by
  rw [lsV_l (f := hasB τ 2 (24 * p)) (g := fun k => τ.1 37 (24 * p + k)) (fun k => by
    show ptV τ p k = if decide (0 ≤ τ.1 37 (24 * p + k)) = true then _ else none
    unfold ptV
    by_cases q : 0 ≤ τ.1 37 (24 * p + k)
    · rw [if_pos q, if_pos (decide_eq_true q)]
    · rw [if_neg q, if_neg (by rw [decide_eq_false q]; decide)])]
  unfold ptN lastO
  cases e : lstN (hasB τ 2 (24 * p)) (m + 1) with
  | none => rfl
  | some k =>
    have h := lst_lt e
    exact un_ofn (hw.pt (24 * p + k) (by omega)) (of_decide_eq_true h.2)
theorem crN_V {τ : Mu} (hw : WF τ) {q m : Nat} (hq : q < 3) (hm : m < 24) : lsV (crV τ q) (m + 1) = nI (crN τ q m) := by
  rw [lsV_l (f := hasB τ 0 (24 * q)) (g := fun k => τ.1 31 (24 * q + k)) (fun k => by
    show crV τ q k = if decide (0 ≤ τ.1 31 (24 * q + k)) = true then _ else none
    unfold crV
    by_cases q1 : 0 ≤ τ.1 31 (24 * q + k)
    · rw [if_pos q1, if_pos (decide_eq_true q1)]
    · rw [if_neg q1, if_neg (by rw [decide_eq_false q1]; decide)])]
  unfold crN lastO
  cases e : lstN (hasB τ 0 (24 * q)) (m + 1) with
  | none => rfl
  | some k =>
    have h := lst_lt e
    exact un_ofn (hw.cr (24 * q + k) (by omega)) (of_decide_eq_true h.2)
theorem clN_V {τ : Mu} (hw : WF τ) {q m : Nat} (hq : q < 3) (hm : m < 24) : lsV (clV τ q) (m + 1) = nI (ceilN τ q m) := by
  rw [lsV_l (f := hasB τ 0 (24 * q)) (g := fun k => τ.1 32 (24 * q + k)) (fun k => by
    show clV τ q k = if decide (0 ≤ τ.1 31 (24 * q + k)) = true then _ else none
    unfold clV
    by_cases q1 : 0 ≤ τ.1 31 (24 * q + k)
    · rw [if_pos q1, if_pos (decide_eq_true q1)]
    · rw [if_neg q1, if_neg (by rw [decide_eq_false q1]; decide)])]
  unfold ceilN lastO
  cases e : lstN (hasB τ 0 (24 * q)) (m + 1) with
  | none => rfl
  | some k =>
    have h := lst_lt e
    exact (hw.cc (24 * q + k) (by omega)).1
/-- what the class keeps of what it was told: contracts; persons; places; leaves, garnishments, payments; the rest -/
def WTc (τ : Mu) (α : Nat → Nat) (M : Mem) (c : Nat) : Prop := CoF τ c (mI M) (cO α c) ∧ StV (pyV τ c) (mI M) (cO α c 2) (cO α c 3) 720 ∧ ∃ sn sk, EnN (fun k => un τ 10 k = c) (un τ 13 13) sn sk ∧ mI M (cO α c 0) 10 = nI sn ∧ ∀ j, j < sn → mI M (cO α c 5) j = nI (un τ 11 (sk j)) ∧ mI M (cO α c 6) j = nI (un τ 11 (sk j) + un τ 12 (sk j))
def WTp (τ : Mu) (α : Nat → Nat) (M : Mem) (p : Nat) : Prop := mI M (hO α p 0) 0 = nI p ∧ StV (stV τ p) (mI M) (hO α p 5) (hO α p 6) 24 ∧ StV (ptV τ p) (mI M) (hO α p 8) (hO α p 9) 24 ∧ (∀ q, q < 3 → ∀ m, m < 24 → mI M (hO α p (11 + q)) m = τ.1 30 (72 * p + 3 * m + q)) ∧ (∀ k, k < 24 → mL M (hO α p 14) k = τ.2 45 (24 * p + k)) ∧
  mL M (hO α p 0) 8 = sumL (fun k => τ.2 45 (24 * p + k)) 24 ∧ mL M (hO α p 0) 9 = sumL (fun k => if un τ 47 k = p ∧ un τ 50 k = 0 then τ.2 49 k else 0) (un τ 51 51)
def WTq (τ : Mu) (α : Nat → Nat) (M : Mem) (q : Nat) : Prop := StV (crV τ q) (mI M) (gO α q 2) (gO α q 3) 24 ∧ StV (clV τ q) (mI M) (gO α q 5) (gO α q 6) 24 ∧ (∀ s, s < 2 → BrF τ (48 * q + 24 * s) (mI M) (fun o => gO α q (11 + 12 * s + o))) ∧
  ∀ m, m < 24 → mL M (gO α q 8) m = τ.2 52 (24 * q + m) ∧ mL M (gO α q 9) m = τ.2 53 (24 * q + m) ∧ mI M (gO α q 10) m = τ.1 54 (24 * q + m)
def WTx (τ : Mu) (α : Nat → Nat) (M : Mem) : Prop := mI M (α 0) 6 = nI (un τ 13 13) ∧ mI M (α 0) 7 = nI (un τ 17 17) ∧ mI M (α 0) 8 = nI (un τ 18 18) ∧ mI M (α 0) 9 = nI (un τ 19 19) ∧ mI M (α 0) 10 = nI (un τ 20 20) ∧ mI M (α 0) 11 = nI (un τ 46 46) ∧ ElF τ (mI M) (eO α)
def WTy (τ : Mu) (α : Nat → Nat) (M : Mem) : Prop := (∀ k, k < un τ 17 17 → mI M (lO α k) 1 = nI (un τ 15 k)) ∧ (∀ g, g < un τ 44 44 → GaF τ g (mI M) (aO α g)) ∧ ∀ k, k < un τ 51 51 → mI M (yO α k) 0 = nI (un τ 47 k) ∧ mI M (yO α k) 1 = nI (un τ 48 k) ∧ mL M (yO α k) 2 = τ.2 49 k ∧ mI M (yO α k) 3 = bI (decide (un τ 50 k = 1))
def WT (τ : Mu) (α : Nat → Nat) (M : Mem) : Prop := (∀ c, c < un τ 9 9 → WTc τ α M c) ∧ (∀ p, p < 6 → WTp τ α M p) ∧ (∀ q, q < 3 → WTq τ α M q) ∧ WTx τ α M ∧ WTy τ α M
/-- a fresh book and what goes with it -/
def BF (τ : Mu) (p : Nat) (α : Nat → Nat) (M : Mem) : Prop :=
  (∀ m, m < 24 → BkR τ p (mL M) (bO α p) m ∧ mI M (bO α p 36) m = nI (homeN τ p m) ∧ (∀ e, e < 6 → mL M (bO α p (30 + e)) m = elL τ p m e) ∧ mL M (bO α p 40) m = ntL τ p m - lvL τ p m ∧ mL M (bO α p 41) m = pyL τ p m) ∧
  (∀ g, g < un τ 44 44 → un τ 38 g = p → ∀ k, k < 24 → mL M (aO α g 1) k = hadL τ p (k + 1) g) ∧
  (∀ c, c < un τ 9 9 → un τ 0 c = p → CoW τ c (mI M) (mL M) (cO α c) ∧ ∀ x, x < 24 → mL M (cO α c 9) x = lN (sumN (leaveP τ (ltN τ) c x) 0 (un τ 17 17))) ∧
  ∀ k, k < un τ 17 17 → un τ 0 (un τ 14 k) = p → mI M (lO α k) 2 = nI (ltN τ k)
def WB (τ : Mu) (α : Nat → Nat) (M : Mem) : Prop := (∀ c, c < un τ 9 9 → mI M (cO α c 0) 11 = 0 → CoW τ c (mI M) (mL M) (cO α c)) ∧ ∀ p, p < 6 → mI M (bO α p 0) 0 = 0 → BF τ p α M
/-- codes of what bookOf may change for p -/
def BC (τ : Mu) (p k : Nat) : Prop := k = 25 ∨ k = 26 ∨ (44 + 57 * p ≤ k ∧ k < 86 + 57 * p) ∨ (∃ c o, c < un τ 9 9 ∧ un τ 0 c = p ∧ (o = 0 ∨ o = 7 ∨ o = 8 ∨ o = 9) ∧ k = 1000 + 10 * c + o) ∨ (∃ g, g < un τ 44 44 ∧ un τ 38 g = p ∧ k = 1100 + 2 * g + 1) ∨ ∃ l, l < un τ 17 17 ∧ un τ 0 (un τ 14 l) = p ∧ k = 1200 + l
def BoA (τ : Mu) (α : Nat → Nat) (p a : Nat) : Prop := ∃ k, BC τ p k ∧ a = α k
/-- the work of a bookOf so far -/
def BX (τ : Mu) (α : Nat → Nat) (p : Nat) (M M1 : Mem) : Prop := frm (BoA τ α p) M M1 ∧ (∀ c, c < un τ 9 9 → ∀ k, k ≠ 11 → mI M1 (cO α c 0) k = mI M (cO α c 0) k) ∧ ∀ l, l < un τ 17 17 → ∀ k, k ≠ 2 → mI M1 (lO α l) k = mI M (lO α l) k
theorem lv_c {τ : Mu} {c o : Nat} (hc : c < un τ 9 9) (ho : o < 10) : LV τ (1000 + 10 * c + o) := by unfold LV; omega
theorem lv_a {τ : Mu} {c o : Nat} (hc : c < un τ 44 44) (ho : o < 2) : LV τ (1100 + 2 * c + o) := by unfold LV; omega
theorem lv_l {τ : Mu} {c : Nat} (hc : c < un τ 17 17) : LV τ (1200 + c) := by unfold LV; omega
theorem lv_y {τ : Mu} {c : Nat} (hc : c < un τ 51 51) : LV τ (1300 + c) := by unfold LV; omega
theorem lv_h {τ : Mu} {p o : Nat} (hp : p < 6) (ho : o < 57) : LV τ (29 + 57 * p + o) := by unfold LV; omega
theorem lv_b {τ : Mu} {p o : Nat} (hp : p < 6) (ho : o < 42) : LV τ (29 + 57 * p + (15 + o)) := by unfold LV; omega
theorem lv_g {τ : Mu} {q o : Nat} (hq : q < 3) (ho : o < 35) : LV τ (371 + 35 * q + o) := by unfold LV; omega
theorem lv_s {τ : Mu} {k : Nat} (h : k < 476) : LV τ k := .inl h
theorem BC.lv {τ : Mu} {p : Nat} (hp : p < 6) {k : Nat} (h : BC τ p k) : LV τ k := by
  rcases h with h | h | h | ⟨c, o, h1, _, h2, rfl⟩ | ⟨g, h1, _, rfl⟩ | ⟨l, h1, _, rfl⟩
  · exact lv_s (by omega)
  · exact lv_s (by omega)
  · exact lv_s (by omega)
  · exact lv_c h1 (by omega)
  · exact lv_a h1 (by decide)
  · exact lv_l h1
theorem BoA.no {τ : Mu} {α : Nat → Nat} {p k : Nat} (hi : INJ τ α) (hp : p < 6) (hk : LV τ k) (h : ¬ BC τ p k) : ¬ BoA τ α p (α k) := by
  rintro ⟨j, hj, e⟩
  exact h (hi k j hk (hj.lv hp) e ▸ hj)
theorem nbc_s {τ : Mu} {p k : Nat} (h : k < 476) (h1 : k ≠ 25) (h2 : k ≠ 26) (h3 : ¬ (44 + 57 * p ≤ k ∧ k < 86 + 57 * p)) : ¬ BC τ p k := by
  rintro (z | z | z | ⟨c, o, _, _, _, rfl⟩ | ⟨g, _, _, rfl⟩ | ⟨l, _, _, rfl⟩) <;> omega
theorem nbc_c {τ : Mu} (hw : WF τ) {p c o : Nat} (hp : p < 6) (hc : c < un τ 9 9) (ho : o < 10) (h : un τ 0 c ≠ p ∨ ¬ (o = 0 ∨ o = 7 ∨ o = 8 ∨ o = 9)) : ¬ BC τ p (1000 + 10 * c + o) := by
  have h9 := hw.nc.2
  rintro (z | z | z | ⟨c', o', h1, h2, h3, z⟩ | ⟨g, _, _, z⟩ | ⟨l, _, _, z⟩)
  · omega
  · omega
  · omega
  · have e1 : c' = c := by omega
    have e2 : o' = o := by omega
    rw [e1] at h2
    rw [e2] at h3
    rcases h with h | h
    · exact h h2
    · exact h h3
  · omega
  · omega
theorem nbc_a {τ : Mu} (hw : WF τ) {p g o : Nat} (hp : p < 6) (hg : g < un τ 44 44) (ho : o < 2) (h : un τ 38 g ≠ p ∨ o = 0) : ¬ BC τ p (1100 + 2 * g + o) := by
  have h9 := hw.nc.2
  have h44 := hw.ng.2
  rintro (z | z | z | ⟨c', o', h1, h2, h3, z⟩ | ⟨g', h1, h2, z⟩ | ⟨l, _, _, z⟩)
  · omega
  · omega
  · omega
  · omega
  · have e1 : g' = g := by omega
    rw [e1] at h2
    rcases h with h | h
    · exact h h2
    · omega
  · omega
theorem nbc_l {τ : Mu} (hw : WF τ) {p l : Nat} (hp : p < 6) (hl : l < un τ 17 17) (h : un τ 0 (un τ 14 l) ≠ p) : ¬ BC τ p (1200 + l) := by
  have h9 := hw.nc.2
  have h44 := hw.ng.2
  rintro (z | z | z | ⟨c', o', h1, h2, h3, z⟩ | ⟨g', h1, h2, z⟩ | ⟨l', _, h2, z⟩)
  · omega
  · omega
  · omega
  · omega
  · omega
  · have e1 : l' = l := by omega
    rw [e1] at h2
    exact h h2
theorem nbc_y {τ : Mu} (hw : WF τ) {p k : Nat} (hp : p < 6) : ¬ BC τ p (1300 + k) := by
  have h9 := hw.nc.2
  have h44 := hw.ng.2
  have h17 := hw.nl.2
  rintro (z | z | z | ⟨c', o', h1, h2, h3, z⟩ | ⟨g', h1, h2, z⟩ | ⟨l', _, h2, z⟩) <;> omega

