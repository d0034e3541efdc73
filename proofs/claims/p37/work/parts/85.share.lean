/-! THE CLASS: share -/
/-- the garnishments of a person in the order of their ranks, those of a rank by number -/
def EnG (τ : Mu) (p ng : Nat) (gn : Nat → Nat) : Prop := (∀ i, i < ng → gn i < un τ 44 44 ∧ un τ 38 (gn i) = p) ∧ (∀ i j, i < j → j < ng → un τ 40 (gn i) < un τ 40 (gn j) ∨ (un τ 40 (gn i) = un τ 40 (gn j) ∧ gn i < gn j)) ∧ ∀ g, g < un τ 44 44 → un τ 38 g = p → ∃ i, i < ng ∧ gn i = g
def PgL (τ : Mu) (p : Nat) (G : gW) (M : Mem) (h : Nat → Nat) (ng : Nat) (gn : Nat → Nat) (fg : Nat → Nat → Nat) : Prop := LI G M 7 (h 3) ng (fun i => fg i 0) ∧ EnG τ p ng gn ∧ ∀ i, i < ng → Blk tbGa (mK M) (mN M) (mR M) (fg i) ∧ GaF τ (gn i) (mI M) (fg i)
theorem EnG.le {τ : Mu} {p ng : Nat} {gn : Nat → Nat} (h : EnG τ p ng gn) : ng ≤ un τ 44 44 :=
  pig (fun i j h1 h2 e => by
    rcases h.2.1 i j h1 h2 with g | g
    · rw [e] at g; omega
    · omega) (fun i hi => (h.1 i hi).1)
section Gr
variable {τ : Mu} {p m : Nat} {nt : Int64} {had : Nat → Int64}
/-- what is left when garnishment g of rank r comes -/
def gK (τ : Mu) (p m : Nat) (nt : Int64) (had : Nat → Int64) (r g : Nat) : Int64 := lfK τ p m nt had r (lfR τ p m nt had r) g
theorem gK_0 (r : Nat) : gK τ p m nt had (r + 1) 0 = gK τ p m nt had r (un τ 44 44) := rfl
theorem gK_sk {r g : Nat} : ∀ {n : Nat}, (∀ x, g ≤ x → x < g + n → ¬ (un τ 40 x = r ∧ un τ 38 x = p)) → gK τ p m nt had r (g + n) = gK τ p m nt had r g
  | 0, _ => rfl
  | n + 1, h => by
    show (if un τ 40 (g + n) = r ∧ un τ 38 (g + n) = p ∧ un τ 39 (g + n) ≤ m then _ else gK τ p m nt had r (g + n)) = _
    rw [if_neg (fun z => h (g + n) (by omega) (by omega) ⟨z.1, z.2.1⟩)]
    exact gK_sk (fun x a b => h x a (by omega))
theorem gK_sk' {r g g' : Nat} (hg : g ≤ g') (h : ∀ x, g ≤ x → x < g' → ¬ (un τ 40 x = r ∧ un τ 38 x = p)) : gK τ p m nt had r g' = gK τ p m nt had r g := by
  obtain ⟨n, rfl⟩ := Nat.le.dest hg
  exact gK_sk h
theorem gK_ad {r g g' : Nat} : ∀ {n : Nat}, (n = 0 → g ≤ g') → g ≤ un τ 44 44 → g' ≤ un τ 44 44 → (∀ x, x < un τ 44 44 → un τ 38 x = p → (r < un τ 40 x ∨ (r = un τ 40 x ∧ g ≤ x)) → (un τ 40 x < r + n ∨ (un τ 40 x = r + n ∧ x < g')) → False) → gK τ p m nt had (r + n) g' = gK τ p m nt had r g
  | 0, h0, _, h2, h3 => gK_sk' (h0 rfl) (fun x a b z => h3 x (by omega) z.2 (.inr ⟨z.1.symm, a⟩) (.inr ⟨z.1, b⟩))
  | n + 1, _, h1, h2, h3 => by
    have e : gK τ p m nt had (r + (n + 1)) g' = gK τ p m nt had (r + (n + 1)) 0 := gK_sk' (Nat.zero_le _) (fun x a b z => h3 x (by omega) z.2 (.inl (by omega)) (.inr ⟨z.1, b⟩))
    rw [e, show r + (n + 1) = (r + n) + 1 by omega, gK_0]
    exact gK_ad (fun _ => h1) h1 (Nat.le_refl _) (fun x a b c d => h3 x a b c (.inl (by omega)))
/-- what is left behind i of the person's garnishments -/
def gP (τ : Mu) (p m : Nat) (nt : Int64) (had : Nat → Int64) (ng : Nat) (gn : Nat → Nat) (i : Nat) : Int64 := if i < ng then gK τ p m nt had (un τ 40 (gn i)) (gn i) else lfR τ p m nt had 10
theorem gn_in {ng : Nat} {gn : Nat → Nat} (h : EnG τ p ng gn) {i x : Nat} (hx : x < un τ 44 44) (hp : un τ 38 x = p) (ha : ∀ j, j < ng → j < i → un τ 40 (gn j) < un τ 40 x ∨ (un τ 40 (gn j) = un τ 40 x ∧ gn j < x)) (hb : i < ng → un τ 40 x < un τ 40 (gn i) ∨ (un τ 40 x = un τ 40 (gn i) ∧ x < gn i)) : False := by
  obtain ⟨j, hj, ej⟩ := h.2.2 x hx hp
  by_cases q : j < i
  · have := ha j hj q
    rw [ej] at this
    omega
  · have h2 := hb (by omega)
    by_cases w : j = i
    · subst w; rw [ej] at h2; omega
    · have := h.2.1 i j (by omega) hj
      rw [ej] at this
      omega
theorem gP_0 (hw : WF τ) {ng : Nat} {gn : Nat → Nat} (h : EnG τ p ng gn) : nt = gP τ p m nt had ng gn 0 := by
  unfold gP
  by_cases q : 0 < ng
  · rw [if_pos q]
    have e := gK_ad (τ := τ) (p := p) (m := m) (nt := nt) (had := had) (r := 0) (g := 0) (g' := gn 0) (n := un τ 40 (gn 0)) (fun _ => Nat.zero_le _) (Nat.zero_le _) (Nat.le_of_lt (h.1 0 q).1) (fun x a b _ d => gn_in h a b (i := 0) (fun j _ z => absurd z (Nat.not_lt_zero _)) (fun _ => by rw [Nat.zero_add] at d; exact d))
    rw [Nat.zero_add] at e
    exact e.symm
  · rw [if_neg q]
    exact (gK_ad (τ := τ) (p := p) (m := m) (nt := nt) (had := had) (r := 0) (g := 0) (g' := 0) (n := 10) (fun z => by omega) (Nat.zero_le _) (Nat.zero_le _) (fun x a b _ _ => gn_in h a b (i := 0) (fun j _ z => absurd z (Nat.not_lt_zero _)) (fun z => absurd z q))).symm
theorem gP_s (hw : WF τ) {ng : Nat} {gn : Nat → Nat} (h : EnG τ p ng gn) {i : Nat} (hi : i < ng) : gP τ p m nt had ng gn i - (if un τ 39 (gn i) ≤ m then tkG τ nt (had (gn i)) (gP τ p m nt had ng gn i) (gn i) else lN 0) = gP τ p m nt had ng gn (i + 1) := by
  have hgi := h.1 i hi
  have e1 : gP τ p m nt had ng gn i - (if un τ 39 (gn i) ≤ m then tkG τ nt (had (gn i)) (gP τ p m nt had ng gn i) (gn i) else lN 0) = gK τ p m nt had (un τ 40 (gn i)) (gn i + 1) := by
    unfold gP
    rw [if_pos hi]
    show _ = (if un τ 40 (gn i) = un τ 40 (gn i) ∧ un τ 38 (gn i) = p ∧ un τ 39 (gn i) ≤ m then _ else _)
    by_cases q : un τ 39 (gn i) ≤ m
    · rw [if_pos q, if_pos ⟨rfl, hgi.2, q⟩]
      rfl
    · rw [if_neg q, if_neg (fun z => q z.2.2)]
      exact Int64.sub_zero _
  rw [e1]
  unfold gP
  have hr := fun j (hj : j < ng) => (hw.gr _ (h.1 j hj).1).2
  have hba : ∀ x, x < un τ 44 44 → un τ 38 x = p → (un τ 40 (gn i) < un τ 40 x ∨ (un τ 40 (gn i) = un τ 40 x ∧ gn i + 1 ≤ x)) → ∀ j, j < ng → j < i + 1 → un τ 40 (gn j) < un τ 40 x ∨ (un τ 40 (gn j) = un τ 40 x ∧ gn j < x) := by
    intro x a b c j hj hji
    by_cases w : j = i
    · subst w; omega
    · have := h.2.1 j i (by omega) hi
      omega
  by_cases q : i + 1 < ng
  · rw [if_pos q]
    have hlt := h.2.1 i (i + 1) (by omega) q
    have hq := h.1 (i + 1) q
    have e := gK_ad (τ := τ) (p := p) (m := m) (nt := nt) (had := had) (r := un τ 40 (gn i)) (g := gn i + 1) (g' := gn (i + 1)) (n := un τ 40 (gn (i + 1)) - un τ 40 (gn i)) (fun z => by omega) (by omega) (by omega) (fun x a b c d => gn_in h a b (i := i + 1) (hba x a b c) (fun _ => by
      rw [show un τ 40 (gn i) + (un τ 40 (gn (i + 1)) - un τ 40 (gn i)) = un τ 40 (gn (i + 1)) by omega] at d
      exact d))
    rw [show un τ 40 (gn i) + (un τ 40 (gn (i + 1)) - un τ 40 (gn i)) = un τ 40 (gn (i + 1)) by omega] at e
    exact e.symm
  · rw [if_neg q]
    have h9 := hr i hi
    have e := gK_ad (τ := τ) (p := p) (m := m) (nt := nt) (had := had) (r := un τ 40 (gn i)) (g := gn i + 1) (g' := 0) (n := 10 - un τ 40 (gn i)) (fun z => by omega) (by omega) (Nat.zero_le _) (fun x a b c d => gn_in h a b (i := i + 1) (hba x a b c) (fun z => absurd z q))
    rw [show un τ 40 (gn i) + (10 - un τ 40 (gn i)) = 10 by omega] at e
    exact e.symm
theorem gP_e {ng : Nat} {gn : Nat → Nat} : gP τ p m nt had ng gn ng = lfR τ p m nt had 10 := if_neg (Nat.lt_irrefl _)
end Gr
theorem had_z {τ : Mu} {p g : Nat} : ∀ {m : Nat}, m ≤ un τ 39 g → hadL τ p m g = lN 0
  | 0, _ => rfl
  | m + 1, h => if_neg (show ¬ un τ 39 g ≤ m by omega)
def gaT (τ : Mu) (p m g : Nat) (left : Int64) : Int64 := if un τ 39 g ≤ m then tkG τ (ntL τ p m) (hadL τ p m g) left g else lN 0
theorem had_s {τ : Mu} {p m ng i : Nat} {gn : Nat → Nat} (h : i < ng) : hadL τ p m (gn i) + gaT τ p m (gn i) (gP τ p m (ntL τ p m) (hadL τ p m) ng gn i) = hadL τ p (m + 1) (gn i) := by
  show _ = (if un τ 39 (gn i) ≤ m then hadL τ p m (gn i) + tkG τ (ntL τ p m) (hadL τ p m (gn i)) (lfK τ p m (ntL τ p m) (hadL τ p m) (un τ 40 (gn i)) (lfR τ p m (ntL τ p m) (hadL τ p m) (un τ 40 (gn i))) (gn i)) (gn i) else lN 0)
  unfold gaT gP
  by_cases q : un τ 39 (gn i) ≤ m
  · rw [if_pos q, if_pos q, if_pos h]; rfl
  · rw [if_neg q, if_neg q, had_z (by omega)]; rfl
/-- advances that can't overflow -/
def AD (τ : Mu) (p : Nat) : Prop := ∀ k, k < 24 → 0 ≤ (τ.2 45 (24 * p + k)).toInt ∧ (τ.2 45 (24 * p + k)).toInt ≤ 2 ^ 58
theorem bkV_I (l o : Int64) (h : 0 ≤ o.toInt) : 0 ≤ (bkV l o).toInt ∧ (bkV l o).toInt ≤ o.toInt := by
  have z : (lN 0).toInt = 0 := rfl
  unfold bkV
  split
  · rw [z]; omega
  · rename_i c
    rw [Int64.le_iff_toInt_le, z] at c
    split
    · rename_i d
      rw [Int64.lt_iff_toInt_lt] at d
      omega
    · omega
theorem ow_bd {τ : Mu} {p : Nat} (h : AD τ p) : ∀ m, m ≤ 24 → 0 ≤ (owL τ p m).toInt ∧ (owL τ p m).toInt ≤ (m : Int) * 2 ^ 58
  | 0, _ => by
    have z : (owL τ p 0).toInt = 0 := rfl
    rw [z]
    omega
  | m + 1, hm => by
    have ih := ow_bd h m (by omega)
    have ha := h m (by omega)
    have e1 : (owL τ p m + τ.2 45 (24 * p + m)).toInt = (owL τ p m).toInt + (τ.2 45 (24 * p + m)).toInt := by
      rw [Int64.toInt_add, Int.bmod_eq_of_le (by omega) (by omega)]
    have hb := bkV_I (lvL τ p m) (owL τ p m + τ.2 45 (24 * p + m)) (by omega)
    show 0 ≤ ((owL τ p m + τ.2 45 (24 * p + m)) - bkV (lvL τ p m) (owL τ p m + τ.2 45 (24 * p + m))).toInt ∧ ((owL τ p m + τ.2 45 (24 * p + m)) - bkV (lvL τ p m) (owL τ p m + τ.2 45 (24 * p + m))).toInt ≤ ((m + 1 : Nat) : Int) * 2 ^ 58
    rw [Int64.toInt_sub, Int.bmod_eq_of_le (by omega) (by omega)]
    omega
theorem ow_nn {τ : Mu} {p m : Nat} (h : AD τ p) (hm : m < 24) : 0 ≤ (owL τ p m + τ.2 45 (24 * p + m)).toInt := by
  have ih := ow_bd h m (by omega)
  have ha := h m hm
  rw [Int64.toInt_add, Int.bmod_eq_of_le (by omega) (by omega)]
  omega
theorem bk_mm {l o : Int64} (h : 0 ≤ o.toInt) : lmax (lN 0) (lmin o l) = bkV l o := by
  have z : (lN 0).toInt = 0 := rfl
  unfold lmax lmin bkV
  by_cases c1 : l ≤ lN 0
  · have d1 := c1
    rw [Int64.le_iff_toInt_le, z] at d1
    rw [if_pos c1]
    by_cases c2 : l < o
    · rw [if_pos c2]
      by_cases c3 : l < lN 0
      · rw [if_pos c3]
      · rw [if_neg c3]
        rw [Int64.lt_iff_toInt_lt, z] at c3
        exact Int64.toInt_inj.mp (by rw [z]; omega)
    · rw [if_neg c2, if_neg (show ¬ o < lN 0 by rw [Int64.lt_iff_toInt_lt, z]; omega)]
      rw [Int64.lt_iff_toInt_lt] at c2
      exact Int64.toInt_inj.mp (by rw [z]; omega)
  · have d1 := c1
    rw [Int64.le_iff_toInt_le, z] at d1
    rw [if_neg c1]
    by_cases c2 : l < o
    · rw [if_pos c2, if_neg (show ¬ l < lN 0 by rw [Int64.lt_iff_toInt_lt, z]; omega)]
    · rw [if_neg c2, if_neg (show ¬ o < lN 0 by rw [Int64.lt_iff_toInt_lt, z]; omega)]
/-- what sharing may change -/
def ShA (f : Nat → Nat) (ng : Nat) (fg : Nat → Nat → Nat) (a : Nat) : Prop := a = f 40 ∨ a = f 41 ∨ ∃ i, i < ng ∧ a = fg i 1
/-- behind m months and i garnishments of the month -/
def SH (τ : Mu) (p : Nat) (f : Nat → Nat) (ng : Nat) (gn : Nat → Nat) (fg : Nat → Nat → Nat) (m i : Nat) (M M1 : Mem) : Prop := frm (ShA f ng fg) M M1 ∧ (∀ k, k < m → mL M1 (f 40) k = ntL τ p k - lvL τ p k ∧ mL M1 (f 41) k = pyL τ p k) ∧ ∀ j, j < ng → ∀ k, k < (if j < i then m + 1 else m) → mL M1 (fg j 1) k = hadL τ p (k + 1) (gn j)
theorem SH.tk {τ : Mu} {p : Nat} {f : Nat → Nat} {ng : Nat} {gn : Nat → Nat} {fg : Nat → Nat → Nat} {m i : Nat} {M M1 M2 : Mem} (h : SH τ p f ng gn fg m i M M1) (hi : i < ng) (hinj : ∀ j k, j < ng → k < ng → j ≠ k → fg j 1 ≠ fg k 1) (hfd : ∀ j, j < ng → f 40 ≠ fg j 1 ∧ f 41 ≠ fg j 1) (g : frm (fun a => a = fg i 1) M1 M2) (h1 : mL M2 (fg i 1) m = hadL τ p (m + 1) (gn i)) (h2 : ∀ k, k ≠ m → mL M2 (fg i 1) k = mL M1 (fg i 1) k) : SH τ p f ng gn fg m (i + 1) M M2 := by
  refine ⟨h.1.tr (g.mono (fun a z => .inr (.inr ⟨i, hi, z⟩))), fun k hk => ?_, fun j hj k hk => ?_⟩
  · rw [g.l (hfd i hi).1, g.l (hfd i hi).2]; exact h.2.1 k hk
  · by_cases e : j = i
    · subst e
      rw [if_pos (by omega)] at hk
      by_cases q : k = m
      · subst q; exact h1
      · exact (h2 k q).trans (h.2.2 j hj k (by rw [if_neg (by omega)]; omega))
    · rw [g.l (hinj j i hj hi e)]
      refine h.2.2 j hj k ?_
      by_cases q : j < i
      · rw [if_pos (by omega)] at hk; rw [if_pos q]; exact hk
      · rw [if_neg (by omega)] at hk; rw [if_neg q]; exact hk
theorem SH.nx {τ : Mu} {p : Nat} {f : Nat → Nat} {ng : Nat} {gn : Nat → Nat} {fg : Nat → Nat → Nat} {m : Nat} {M M1 : Mem} (h : SH τ p f ng gn fg m ng M M1) (hfd : ∀ j, j < ng → f 40 ≠ fg j 1 ∧ f 41 ≠ fg j 1) (hne : f 40 ≠ f 41) : SH τ p f ng gn fg (m + 1) 0 M (wL (wL M1 (f 40) m (ntL τ p m - lvL τ p m)) (f 41) m (lvL τ p m - bkL τ p m)) := by
  refine ⟨(h.1.wl _ _ (.inl rfl)).wl _ _ (.inr (.inl rfl)), fun k hk => ?_, fun j hj k hk => ?_⟩
  · rw [wL_a hne]
    by_cases e : k = m
    · subst e; exact ⟨wL_i, wL_i⟩
    · exact ⟨(wL_k e).trans (h.2.1 k (by omega)).1, (wL_k e).trans ((congrFun (wL_a (fun z => hne z.symm)) k).trans (h.2.1 k (by omega)).2)⟩
  · rw [if_neg (Nat.not_lt_zero _)] at hk
    rw [wL_a (fun z => (hfd j hj).2 z.symm), wL_a (fun z => (hfd j hj).1 z.symm)]
    exact h.2.2 j hj k (by rw [if_pos hj]; exact hk)
theorem SH.er {τ : Mu} {p : Nat} {f : Nat → Nat} {ng : Nat} {gn : Nat → Nat} {fg : Nat → Nat → Nat} {m i : Nat} {M M1 : Mem} (h : SH τ p f ng gn fg m i M M1) (hi : i < ng) : erG (mL M1) (fg i 1) m = hadL τ p m (gn i) := by
  unfold erG
  cases m with
  | zero => rfl
  | succ m =>
    rw [if_neg (Nat.succ_ne_zero m)]
    exact h.2.2 i hi m (by rw [if_neg (Nat.lt_irrefl _)]; omega)
set_option maxHeartbeats 1000000 in
set_option maxRecDepth 100000 in
theorem c_X0_share (l : Launch) (hfl : l.flags = flags0) (G : gW) (M : Mem) (f : Nat → Nat) (hb : Blk tbBk (mK M) (mN M) (mR M) f) (h : Nat → Nat) (hhb : Blk tbPe (mK M) (mN M) (mR M) h) (τ : Mu) (hw : WF τ) (p ng : Nat) (gn : Nat → Nat) (fg : Nat → Nat → Nat) (hpg : PgL τ p G M h ng gn fg) (had : AD τ p) (hav : ∀ k, k < 24 → mL M (h 14) k = τ.2 45 (24 * p + k)) (hnt : ∀ k, k < 24 → mL M (f 39) k = ntL τ p k) (hda : ∀ a, ShA f ng fg a → a ≠ h 3 ∧ a ≠ h 14 ∧ a ≠ f 39 ∧ ∀ i, i < ng → a ≠ fg i 0) (hinj : ∀ j k, j < ng → k < ng → j ≠ k → fg j 1 ≠ fg k 1) (hfd : ∀ j, j < ng → f 40 ≠ fg j 1 ∧ f 41 ≠ fg j 1) : CT l yX0_share cX0_share 9 none 3 0 0 84 G M [.ref (f 0), .ref (h 0)] (fun v M' => v = none ∧ SH τ p f ng gn fg 24 0 M M') := by
  refine CT.of hfl rfl (Nat.le_of_ble_eq_true rfl) ?_
  intro pp ee ss mm ar bw mt cd C hgX hr hini
  have hbO := hb
  have hhbO := hhb
  have h44 := hw.ng.2
  have hngl := hpg.2.1.le
  refine V.eLo (lo' := [(0, .ref (f 0)), (1, .ref (h 0))]) rfl ?_
  refine r_lconst C (v := lN 0) dX0_share_0 (by decide) ?_
  refine r_lstore_n C (lo' := [(2, .long (lN 0)), (0, .ref (f 0)), (1, .ref (h 0))]) dX0_share_1 rfl (by decide) rfl ?_
  refine r_iconst C (v := nI 0) dX0_share_2 (by decide) ?_
  refine r_istore C (lo' := [(4, .int (nI 0)), (2, .long (lN 0)), (0, .ref (f 0)), (1, .ref (h 0))]) dX0_share_3 (by decide) rfl ?_
  have lp5 : ∀ (k5 : Nat) (M1 : Mem) (m : Nat) (hm : m ≤ 24) (hsh : SH τ p f ng gn fg m 0 M M1), 25 - m < k5 → V pp l ee ({ frames := 3, cells := 0, slots := 0, locals := 84 } : Room) ss mm ar bw mt cd G (MQ bw (Ke G (fun v M' => v = none ∧ SH τ p f ng gn fg 24 0 M M')) ar ss 0 0 (gA G)) 9 M1 0 0 5 [(0, .ref (f 0)), (1, .ref (h 0)), (2, .long (owL τ p m)), (4, .int (nI m))] [] := by
    intro k5
    induction k5 with
    | zero => intro M1 m hm hsh hz5; exact absurd hz5 (Nat.not_lt_zero _)
    | succ k5 ih5 =>
      intro M1 m hm hsh hz5
      have hb := hsh.1.blk hbO
      have hhb := hsh.1.blk hhbO
      have hpg1 : LI G M1 7 (h 3) ng (fun i => fg i 0) := hpg.1.fr hsh.1 (fun z => (hda _ z).1 rfl)
      have hnt1 : ∀ k, k < 24 → mL M1 (f 39) k = ntL τ p k := fun k hk => (congrFun (hsh.1.l (fun z => (hda _ z).2.2.1 rfl)) k).trans (hnt k hk)
      refine r_iload C 3 dX0_share_5 rfl ?_
      refine r_bipush C (v := nI 24) dX0_share_7 (by decide) ?_
      refine r_icmp_geN C (t := 135) (by omega) (by omega) dX0_share_9 (by decide) (fun c9 => ?_) (fun c9 => ?_)
      · skip
        have e24 : m = 24 := by omega
        subst e24
        exact r_vret C hr (⟨rfl, hsh⟩) (by first | exact Nat.zero_le _ | decide) (by first | exact Nat.zero_le _ | decide) dX0_share_135
      · skip
        refine r_aload_n C 0 dX0_share_12 rfl rfl ?_
        refine r_getR C (b := (f 39)) fl_X0_52 rfl (hb.k 0 4 rfl) (hb.r 0 12 39 rfl) dX0_share_13 ?_
        refine r_iload C 3 dX0_share_16 rfl ?_
        refine r_laloadN C (hb.k 39 21 rfl) (hb.n 39 24 rfl) (by omega) (by omega) dX0_share_18 ?_
        refine V.el (y := ntL τ p m) (hnt1 m (by omega)) ?_
        refine V.el (y := gP τ p m (ntL τ p m) (hadL τ p m) ng gn 0) (gP_0 hw hpg.2.1) ?_
        refine r_lstore C (lo' := [(5, .long (gP τ p m (ntL τ p m) (hadL τ p m) ng gn 0)), (0, .ref (f 0)), (1, .ref (h 0)), (2, .long (owL τ p m)), (4, .int (nI m))]) dX0_share_19 (by decide) rfl ?_
        refine r_iconst C (v := nI 0) dX0_share_21 (by decide) ?_
        refine r_istore C (lo' := [(7, .int (nI 0)), (5, .long (gP τ p m (ntL τ p m) (hadL τ p m) ng gn 0)), (0, .ref (f 0)), (1, .ref (h 0)), (2, .long (owL τ p m)), (4, .int (nI m))]) dX0_share_22 (by decide) rfl ?_
        have lp24 : ∀ (k24 : Nat) (M2 : Mem) (i : Nat) (hi : i ≤ ng) (hsh : SH τ p f ng gn fg m i M M2), ng + 1 - i < k24 → V pp l ee ({ frames := 3, cells := 0, slots := 0, locals := 84 } : Room) ss mm ar bw mt cd G (MQ bw (Ke G (fun v M' => v = none ∧ SH τ p f ng gn fg 24 0 M M')) ar ss 0 0 (gA G)) 9 M2 0 0 24 [(0, .ref (f 0)), (1, .ref (h 0)), (2, .long (owL τ p m)), (4, .int (nI m)), (5, .long (gP τ p m (ntL τ p m) (hadL τ p m) ng gn i)), (7, .int (nI i))] [] := by
          intro k24
          induction k24 with
          | zero => intro M2 i hi hsh hz24; exact absurd hz24 (Nat.not_lt_zero _)
          | succ k24 ih24 =>
            intro M2 i hi hsh hz24
            have hb := hsh.1.blk hbO
            have hhb := hsh.1.blk hhbO
            have hpg1 : LI G M2 7 (h 3) ng (fun i => fg i 0) := hpg.1.fr hsh.1 (fun z => (hda _ z).1 rfl)
            have hnt1 : ∀ k, k < 24 → mL M2 (f 39) k = ntL τ p k := fun k hk => (congrFun (hsh.1.l (fun z => (hda _ z).2.2.1 rfl)) k).trans (hnt k hk)
            refine r_iload C 5 dX0_share_24 rfl ?_
            refine r_aload_n C 1 dX0_share_26 rfl rfl ?_
            refine r_getR C (b := (h 3)) fl_X0_179 rfl (hhb.k 0 11 rfl) (hhb.r 0 3 3 rfl) dX0_share_27 ?_
            refine r_callV C hgX (ci := 2) ml_X0_71 im_Jx4a65c_size_8abf5 se_Jx4a65c_size_8abf5 rfl rfl (hhb.k 3 3 rfl) (c_Jx4a65c_size_8abf5 l hfl G M2 (h 3) ng (hpg1).1 (hpg1).2.1) rfl (Nat.le_of_ble_eq_true rfl) ⟨Nat.le_of_ble_eq_true rfl, Nat.le_of_ble_eq_true rfl⟩ ⟨Nat.le_of_ble_eq_true rfl, Nat.le_of_ble_eq_true rfl⟩ dX0_share_30 rfl ?_
            rintro _ _ ⟨rfl, rfl⟩
            refine V.eSt (st' := [.int (nI ng), .int (nI i)]) rfl ?_
            refine r_icmp_geN C (t := 73) (by omega) (by omega) dX0_share_33 (by decide) (fun c33 => ?_) (fun c33 => ?_)
            · skip
              have ei : ng = i := by omega
              subst ei
              refine r_aload_n C 0 dX0_share_73 rfl rfl ?_
              refine r_getR C (b := (f 40)) fl_X0_55 rfl (hb.k 0 4 rfl) (hb.r 0 13 40 rfl) dX0_share_74 ?_
              refine r_iload C 3 dX0_share_77 rfl ?_
              refine r_aload_n C 0 dX0_share_79 rfl rfl ?_
              refine r_getR C (b := (f 39)) fl_X0_52 rfl (hb.k 0 4 rfl) (hb.r 0 12 39 rfl) dX0_share_80 ?_
              refine r_iload C 3 dX0_share_83 rfl ?_
              refine r_laloadN C (hb.k 39 21 rfl) (hb.n 39 24 rfl) (by omega) (by omega) dX0_share_85 ?_
              refine V.el (y := ntL τ p m) (hnt1 m (by omega)) ?_
              refine r_lload C 4 dX0_share_86 rfl ?_
              refine r_lsub C dX0_share_88 ?_
              refine V.el (y := ntL τ p m - lvL τ p m) (by rw [gP_e]; rfl) ?_
              refine r_lastoreN C (hb.k 40 21 rfl) (hb.n 40 24 rfl) (by omega) (by omega) dX0_share_89 ?_
              refine r_lload_n C 2 dX0_share_90 rfl rfl ?_
              refine r_aload_n C 1 dX0_share_91 rfl rfl ?_
              refine r_getR C (b := (h 14)) fl_X0_188 rfl (hhb.k 0 11 rfl) (hhb.r 0 7 14 rfl) dX0_share_92 ?_
              refine r_iload C 3 dX0_share_95 rfl ?_
              refine r_laloadN C (hhb.k 14 21 rfl) (hhb.n 14 24 rfl) (by omega) (by omega) dX0_share_97 ?_
              refine V.el (y := τ.2 45 (24 * p + m)) ((congrFun (wL_a (fun z => (hda (f 40) (.inl rfl)).2.1 z.symm)) m).trans ((congrFun (hsh.1.l (fun z => (hda _ z).2.1 rfl)) m).trans (hav m (by omega)))) ?_
              refine r_ladd C dX0_share_98 ?_
              refine r_lstore_n C (lo' := [(2, .long ((owL τ p m) + (τ.2 45 (24 * p + m)))), (0, .ref (f 0)), (1, .ref (h 0)), (4, .int (nI m)), (5, .long (gP τ p m (ntL τ p m) (hadL τ p m) ng gn ng)), (7, .int (nI ng))]) dX0_share_99 rfl (by decide) rfl ?_
              refine r_lconst C (v := lN 0) dX0_share_100 (by decide) ?_
              refine r_lload_n C 0 dX0_share_101 rfl rfl ?_
              refine r_lload C 4 dX0_share_102 rfl ?_
              refine r_minL C km_X0_163 (Nat.le_of_ble_eq_true rfl) (Nat.le_of_ble_eq_true rfl) (by first | exact Nat.zero_le _ | decide) (by first | exact Nat.zero_le _ | decide) dX0_share_104 ?_
              refine r_maxL C km_X0_134 (Nat.le_of_ble_eq_true rfl) (Nat.le_of_ble_eq_true rfl) (by first | exact Nat.zero_le _ | decide) (by first | exact Nat.zero_le _ | decide) dX0_share_107 ?_
              refine V.el (y := bkL τ p m) (by rw [gP_e]; exact bk_mm (ow_nn had (by omega))) ?_
              refine r_lstore C (lo' := [(7, .long (bkL τ p m)), (2, .long ((owL τ p m) + (τ.2 45 (24 * p + m)))), (0, .ref (f 0)), (1, .ref (h 0)), (4, .int (nI m)), (5, .long (gP τ p m (ntL τ p m) (hadL τ p m) ng gn ng))]) dX0_share_110 (by decide) rfl ?_
              refine r_lload_n C 1 dX0_share_112 rfl rfl ?_
              refine r_lload C 0 dX0_share_113 rfl ?_
              refine r_lsub C dX0_share_115 ?_
              refine V.el (y := owL τ p (m + 1)) (rfl) ?_
              refine r_lstore_n C (lo' := [(2, .long (owL τ p (m + 1))), (7, .long (bkL τ p m)), (0, .ref (f 0)), (1, .ref (h 0)), (4, .int (nI m)), (5, .long (gP τ p m (ntL τ p m) (hadL τ p m) ng gn ng))]) dX0_share_116 rfl (by decide) rfl ?_
              refine r_aload_n C 2 dX0_share_117 rfl rfl ?_
              refine r_getR C (b := (f 41)) fl_X0_58 rfl (hb.k 0 4 rfl) (hb.r 0 14 41 rfl) dX0_share_118 ?_
              refine r_iload C 4 dX0_share_121 rfl ?_
              refine r_lload C 5 dX0_share_123 rfl ?_
              refine r_lload C 1 dX0_share_125 rfl ?_
              refine r_lsub C dX0_share_127 ?_
              refine V.el (y := lvL τ p m - bkL τ p m) (by rw [gP_e]; rfl) ?_
              have hsh3 := hsh.nx hfd (hb.ne 40 41 rfl)
              refine r_lastoreN C (hb.k 41 21 rfl) (hb.n 41 24 rfl) (by omega) (by omega) dX0_share_128 ?_
              refine r_iinc C (v := nI (m + 1)) (lo' := [(4, .int (nI (m + 1))), (2, .long (owL τ p (m + 1))), (7, .long (bkL τ p m)), (0, .ref (f 0)), (1, .ref (h 0)), (5, .long (gP τ p m (ntL τ p m) (hadL τ p m) ng gn ng))]) 4 dX0_share_129 rfl (nI_addI m 1) (by decide) rfl ?_
              refine r_goto C (t := 5) dX0_share_132 (by decide) ?_
              refine V.sub [3, 4, 1, 0] (lo' := [(0, .ref (f 0)), (1, .ref (h 0)), (2, .long (owL τ p (m + 1))), (4, .int (nI (m + 1)))]) rfl ?_
              exact ih5 (wL (wL M2 (f 40) m (ntL τ p m - lvL τ p m)) (f 41) m (lvL τ p m - bkL τ p m)) (m + 1) (by omega) hsh3 (by omega)
            · skip
              have hbg := hsh.1.blk (hpg.2.2 i (by omega)).1
              have hga : GaF τ (gn i) (mI M2) (fg i) := by
                unfold GaF
                rw [hsh.1.i (fun z => (hda _ z).2.2.2 i (by omega) rfl)]
                exact (hpg.2.2 i (by omega)).2
              have her := hsh.er (i := i) (by omega)
              refine r_lload C 4 dX0_share_36 rfl ?_
              refine r_aload_n C 1 dX0_share_38 rfl rfl ?_
              refine r_getR C (b := (h 3)) fl_X0_179 rfl (hhb.k 0 11 rfl) (hhb.r 0 3 3 rfl) dX0_share_39 ?_
              refine r_iload C 5 dX0_share_42 rfl ?_
              obtain ⟨d_, hd_, hkd_, hsn_, hn_, hri_⟩ := (hpg1).get (i := i) (by omega)
              refine r_callV C hgX (ci := 2) ml_X0_77 im_Jx4a65c_get_915e3 se_Jx4a65c_get_915e3 rfl rfl (hhb.k 3 3 rfl) (c_Jx4a65c_get_915e3 l hfl G M2 (h 3) d_ _ i (fg i 0) ng (hpg1).1 hd_ (hpg1).2.1 hkd_ rfl hn_ hsn_ (by omega) hri_) rfl (Nat.le_of_ble_eq_true rfl) ⟨Nat.le_of_ble_eq_true rfl, Nat.le_of_ble_eq_true rfl⟩ ⟨Nat.le_of_ble_eq_true rfl, Nat.le_of_ble_eq_true rfl⟩ dX0_share_44 rfl ?_
              rintro _ _ ⟨rfl, rfl⟩
              refine V.eSt (st' := [.ref (fg i 0), .long (gP τ p m (ntL τ p m) (hadL τ p m) ng gn i)]) rfl ?_
              refine r_cast C (ci := 7) rfl cl_X0_182 ((hbg.k 0 8 rfl)) dX0_share_47 ?_
              refine r_iload C 3 dX0_share_50 rfl ?_
              refine r_aload_n C 0 dX0_share_52 rfl rfl ?_
              refine r_getR C (b := (f 39)) fl_X0_52 rfl (hb.k 0 4 rfl) (hb.r 0 12 39 rfl) dX0_share_53 ?_
              refine r_iload C 3 dX0_share_56 rfl ?_
              refine r_laloadN C (hb.k 39 21 rfl) (hb.n 39 24 rfl) (by omega) (by omega) dX0_share_58 ?_
              refine V.el (y := ntL τ p m) (hnt1 m (by omega)) ?_
              refine r_lload C 4 dX0_share_59 rfl ?_
              refine r_callV C hgX (ci := 7) ml_X0_184 im_X5_take se_X5_take rfl rfl (hbg.k 0 8 rfl) (c_X5_take l hfl G M2 (fg i) hbg τ hw (gn i) (hpg.2.1.1 i (by omega)).1 hga m (by omega) (ntL τ p m) (gP τ p m (ntL τ p m) (hadL τ p m) ng gn i)) rfl (Nat.le_of_ble_eq_true rfl) ⟨Nat.le_of_ble_eq_true rfl, Nat.le_of_ble_eq_true rfl⟩ ⟨Nat.le_of_ble_eq_true rfl, Nat.le_of_ble_eq_true rfl⟩ dX0_share_61 rfl ?_
              rintro _ My1 ⟨rfl, hfm1, htk1, hto1⟩
              refine V.eSt (st' := [.long (if un τ 39 (gn i) ≤ m then tkG τ (ntL τ p m) (erG (mL M2) (fg i 1) m) (gP τ p m (ntL τ p m) (hadL τ p m) ng gn i) (gn i) else lN 0), .long (gP τ p m (ntL τ p m) (hadL τ p m) ng gn i)]) rfl ?_
              refine V.el (y := gaT τ p m (gn i) (gP τ p m (ntL τ p m) (hadL τ p m) ng gn i)) (by rw [her]; rfl) ?_
              have hsh2 := hsh.tk (by omega) hinj hfd hfm1 (by rw [htk1, her]; exact had_s (by omega)) hto1
              refine r_lsub C dX0_share_64 ?_
              refine r_lstore C (lo' := [(5, .long ((gP τ p m (ntL τ p m) (hadL τ p m) ng gn i) - (gaT τ p m (gn i) (gP τ p m (ntL τ p m) (hadL τ p m) ng gn i)))), (0, .ref (f 0)), (1, .ref (h 0)), (2, .long (owL τ p m)), (4, .int (nI m)), (7, .int (nI i))]) dX0_share_65 (by decide) rfl ?_
              refine r_iinc C (v := nI (i + 1)) (lo' := [(7, .int (nI (i + 1))), (5, .long ((gP τ p m (ntL τ p m) (hadL τ p m) ng gn i) - (gaT τ p m (gn i) (gP τ p m (ntL τ p m) (hadL τ p m) ng gn i)))), (0, .ref (f 0)), (1, .ref (h 0)), (2, .long (owL τ p m)), (4, .int (nI m))]) 5 dX0_share_67 rfl (nI_addI i 1) (by decide) rfl ?_
              refine r_goto C (t := 24) dX0_share_70 (by decide) ?_
              have jb5 : ((gP τ p m (ntL τ p m) (hadL τ p m) ng gn i) - (gaT τ p m (gn i) (gP τ p m (ntL τ p m) (hadL τ p m) ng gn i))) = (gP τ p m (ntL τ p m) (hadL τ p m) ng gn (i + 1)) := by exact gP_s hw hpg.2.1 (by omega)
              refine V.eLo (lo' := [(7, .int (nI (i + 1))), (5, .long (gP τ p m (ntL τ p m) (hadL τ p m) ng gn (i + 1))), (0, .ref (f 0)), (1, .ref (h 0)), (2, .long (owL τ p m)), (4, .int (nI m))]) (congrArg (fun z_ => ([(7, .int (nI (i + 1))), (5, .long z_), (0, .ref (f 0)), (1, .ref (h 0)), (2, .long (owL τ p m)), (4, .int (nI m))] : List (Nat × Value))) jb5) ?_
              refine V.sub [2, 3, 4, 5, 1, 0] (lo' := [(0, .ref (f 0)), (1, .ref (h 0)), (2, .long (owL τ p m)), (4, .int (nI m)), (5, .long (gP τ p m (ntL τ p m) (hadL τ p m) ng gn (i + 1))), (7, .int (nI (i + 1)))]) rfl ?_
              exact ih24 My1 (i + 1) (by omega) hsh2 (by omega)
        refine V.sub [2, 3, 4, 5, 1, 0] (lo' := [(0, .ref (f 0)), (1, .ref (h 0)), (2, .long (owL τ p m)), (4, .int (nI m)), (5, .long (gP τ p m (ntL τ p m) (hadL τ p m) ng gn 0)), (7, .int (nI 0))]) rfl ?_
        exact lp24 _ M1 0 (Nat.zero_le _) hsh (Nat.lt_succ_self _)
  refine V.sub [2, 3, 1, 0] (lo' := [(0, .ref (f 0)), (1, .ref (h 0)), (2, .long (lN 0)), (4, .int (nI 0))]) rfl ?_
  exact lp5 _ M 0 (Nat.zero_le _) (⟨frm.rf _ _, fun k z => absurd z (Nat.not_lt_zero _), fun j _ k hk => by rw [if_neg (Nat.not_lt_zero _)] at hk; exact absurd hk (Nat.not_lt_zero _)⟩) (Nat.lt_succ_self _)

