/-! THE CLASS: bookOf -/
section Bo
variable {τ : Mu} {G : gW} {α : Nat → Nat} {p nc nl ng : Nat} {cn ln gn : Nat → Nat} {M M1 M2 : Mem}
theorem WS.bk (w : WS τ G α M) (hp : p < 6) : Blk tbBk (mK M) (mN M) (mR M) (bO α p) := (w.2.2.1 p hp).1.sub tbBk 15 rfl
theorem WS.el (w : WS τ G α M) : Blk tbEl (mK M) (mN M) (mR M) (eO α) := w.2.1.sub tbEl 4 rfl
theorem pc_of (w : WS τ G α M) (t : WT τ α M) (h1 : EnN (fun c => un τ 0 c = p) (un τ 9 9) nc cn) (h4 : LI G M 5 (hO α p 1) nc (fun i => cO α (cn i) 0)) : PcL τ p G M (hO α p) nc cn (fun i => cO α (cn i)) :=
  ⟨h4, h1, fun i hi => ⟨w.2.2.2.2.1 _ (h1.1 i hi).1, (t.1 _ (h1.1 i hi).1).1⟩⟩
theorem pl_of (w : WS τ G α M) (t : WT τ α M) (h2 : EnL τ p nl ln) (h5 : LI G M 8 (hO α p 2) nl (fun i => lO α (ln i))) : PlL τ p G M (hO α p) nl ln (fun i => lO α (ln i)) := by
  refine ⟨h5, h2, fun i hi => t.2.2.2.2.1 _ (h2.1 i hi).1, fun i j hi hj e => ?_⟩
  have e2 := w.1 (1200 + ln i) (1200 + ln j) (lv_l (h2.1 i hi).1) (lv_l (h2.1 j hj).1) e
  have key : ∀ i j, i < j → j < nl → ln i ≠ ln j := fun i j a b z => by
    rcases h2.2.1 i j a b with q | q
    · rw [z] at q; omega
    · omega
  rcases Nat.lt_trichotomy i j with q | q | q
  · exact absurd (show ln i = ln j by omega) (key i j q hj)
  · exact q
  · exact absurd (show ln j = ln i by omega) (key j i q hi)
theorem pg_of (w : WS τ G α M) (t : WT τ α M) (h3 : EnG τ p ng gn) (h6 : LI G M 7 (hO α p 3) ng (fun i => aO α (gn i) 0)) : PgL τ p G M (hO α p) ng gn (fun i => aO α (gn i)) :=
  ⟨h6, h3, fun i hi => ⟨w.2.2.2.2.2.1 _ (h3.1 i hi).1, t.2.2.2.2.2.1 _ (h3.1 i hi).1⟩⟩
theorem pe_of (w : WS τ G α M) (t : WT τ α M) (hw : WF τ) (hp : p < 6) : PeT τ p M (hO α p) :=
  ⟨(w.2.2.1 p hp).1, fun m hm => ((t.2.1 p hp).2.1 m hm).2.trans (stN_V hw hp hm), fun m hm => ((t.2.1 p hp).2.2.1 m hm).2.trans (ptN_V hw hp hm)⟩
theorem pq_of (w : WS τ G α M) (t : WT τ α M) (hw : WF τ) {q : Nat} (hq : q < 3) : PlT τ q M (gO α q) :=
  ⟨(w.2.2.2.1 q hq).1, fun m hm => ((t.2.2.1 q hq).1 m hm).2.trans (crN_V hw hq hm), fun m hm => ((t.2.2.1 q hq).2.1 m hm).2.trans (clN_V hw hq hm), fun s hs => (t.2.2.1 q hq).2.2.1 s hs⟩
theorem dj_of (hi : INJ τ α) (hw : WF τ) (hp : p < 6) (h1 : EnN (fun c => un τ 0 c = p) (un τ 9 9) nc cn) (h2 : EnL τ p nl ln) : ∀ a, LaA nl (fun i => lO α (ln i)) a → a ≠ hO α p 1 ∧ a ≠ hO α p 2 ∧ ∀ i, i < nc → ∀ o, o < 10 → a ≠ cO α (cn i) o := by
  have h9 := hw.nc.2
  rintro a ⟨j, hj, rfl⟩
  have hl := lv_l (h2.1 j hj).1
  exact ⟨hi.ne hl (lv_h hp (by decide)) (by omega), hi.ne hl (lv_h hp (by decide)) (by omega), fun i hi2 o ho => hi.ne hl (lv_c (h1.1 i hi2).1 ho) (by have := (h1.1 i hi2).1; omega)⟩
theorem dx_of (hi : INJ τ α) (h1 : EnN (fun c => un τ 0 c = p) (un τ 9 9) nc cn) : CoX nc (fun i => cO α (cn i)) := fun i j a b e o r ho hr =>
  hi.ne (lv_c (h1.1 i a).1 ho) (lv_c (h1.1 j b).1 hr) (by have : cn i ≠ cn j := fun z => e (h1.inj i j a b z); omega)
theorem dh_of (hi : INJ τ α) (hw : WF τ) (hp : p < 6) (h1 : EnN (fun c => un τ 0 c = p) (un τ 9 9) nc cn) (h2 : EnL τ p nl ln) : ∀ i, i < nc → ∀ o, o < 10 → cO α (cn i) o ≠ hO α p 1 ∧ cO α (cn i) o ≠ hO α p 2 ∧ ∀ j, j < nl → cO α (cn i) o ≠ lO α (ln j) := by
  have h9 := hw.nc.2
  intro i a o ho
  have hl := lv_c (h1.1 i a).1 ho
  exact ⟨hi.ne hl (lv_h hp (by decide)) (by omega), hi.ne hl (lv_h hp (by decide)) (by omega), fun j hj => hi.ne hl (lv_l (h2.1 j hj).1) (by have := (h1.1 i a).1; omega)⟩
theorem lc_of (w : WS τ G α M) (h1 : EnN (fun c => un τ 0 c = p) (un τ 9 9) nc cn) (h2 : EnL τ p nl ln) (hw : WF τ) : ∀ j, j < nl → ∃ i, i < nc ∧ mR M (lO α (ln j)) 0 = some (cO α (cn i) 0) ∧ cn i = un τ 14 (ln j) := by
  intro j hj
  have hl := h2.1 j hj
  obtain ⟨i, a, b⟩ := h1.2.2 _ (hw.lc _ hl.1).2 hl.2
  exact ⟨i, a, by rw [b]; exact (w.2.2.2.2.2.2.1 _ hl.1).2, b⟩
theorem BX.tk (h : BX τ α p M M1) (hi : INJ τ α) (hw : WF τ) (h2 : EnL τ p nl ln) (g : frm (LaA nl (fun i => lO α (ln i))) M1 M2) (g2 : ∀ i, i < nl → ∀ k, k ≠ 2 → mI M2 (lO α (ln i)) k = mI M1 (lO α (ln i)) k) : BX τ α p M M2 := by
  have h9 := hw.nc.2
  refine ⟨h.1.tr (g.mono fun a => ?_), fun c hc k hk => ?_, fun l hl k hk => ?_⟩
  · rintro ⟨i, a, e⟩
    exact ⟨1200 + ln i, .inr (.inr (.inr (.inr (.inr ⟨ln i, (h2.1 i a).1, (h2.1 i a).2, rfl⟩)))), e⟩
  · refine (congrFun (g.i ?_) k).trans (h.2.1 c hc k hk)
    rintro ⟨i, a, e⟩
    have := hi _ _ (lv_c hc (show 0 < 10 by decide)) (lv_l (h2.1 i a).1) e
    omega
  · by_cases q : ∃ i, i < nl ∧ ln i = l
    · obtain ⟨i, a, b⟩ := q
      rw [← b]
      refine (g2 i a k hk).trans ?_
      rw [b]
      exact h.2.2 l hl k hk
    · refine (congrFun (g.i ?_) k).trans (h.2.2 l hl k hk)
      rintro ⟨i, a, e⟩
      have := hi _ _ (lv_l hl) (lv_l (h2.1 i a).1) e
      exact q ⟨i, a, by omega⟩
theorem BX.co (h : BX τ α p M M1) (hi : INJ τ α) (hw : WF τ) (h1 : EnN (fun c => un τ 0 c = p) (un τ 9 9) nc cn) {F : Nat → Nat → Nat} (g : CoD τ nc cn (fun i => cO α (cn i)) M1 M2 F) : BX τ α p M M2 := by
  have h9 := hw.nc.2
  refine ⟨h.1.tr (g.1.mono fun a => ?_), fun c hc k hk => ?_, fun l hl k hk => ?_⟩
  · rintro ⟨i, a, e⟩
    have b := h1.1 i a
    rcases e with e | e | e | e
    · exact ⟨_, .inr (.inr (.inr (.inl ⟨cn i, 0, b.1, b.2, by omega, rfl⟩))), e⟩
    · exact ⟨_, .inr (.inr (.inr (.inl ⟨cn i, 9, b.1, b.2, by omega, rfl⟩))), e⟩
    · exact ⟨_, .inr (.inr (.inr (.inl ⟨cn i, 7, b.1, b.2, by omega, rfl⟩))), e⟩
    · exact ⟨_, .inr (.inr (.inr (.inl ⟨cn i, 8, b.1, b.2, by omega, rfl⟩))), e⟩
  · by_cases q : un τ 0 c = p
    · obtain ⟨i, a, rfl⟩ := h1.2.2 c hc q
      exact (g.2.1 i a k hk).trans (h.2.1 _ hc k hk)
    · refine (congrFun (g.1.i (CoA.no (fun i a o ho => ?_))) k).trans (h.2.1 c hc k hk)
      refine hi.ne (lv_c (h1.1 i a).1 ho) (lv_c hc (show 0 < 10 by decide)) ?_
      have : cn i ≠ c := fun z => q (z ▸ (h1.1 i a).2)
      omega
  · refine (congrFun (g.1.i (CoA.no (fun i a o ho => ?_))) k).trans (h.2.2 l hl k hk)
    exact hi.ne (lv_c (h1.1 i a).1 ho) (lv_l hl) (by have := (h1.1 i a).1; omega)
theorem cl_of (hi : INJ τ α) (hw : WF τ) (h1 : EnN (fun c => un τ 0 c = p) (un τ 9 9) nc cn) (h2 : EnL τ p nl ln) (hlt : ∀ i, i < nl → mI M1 (lO α (ln i)) 2 = nI (ltN τ (ln i))) (g : CoD τ nc cn (fun i => cO α (cn i)) M1 M2 (fun i x => sumN (leaveP τ (ltN τ) (cn i) x) 0 (un τ 17 17))) : CLf τ p α M2 := by
  have h9 := hw.nc.2
  refine ⟨fun c hc q => ?_, fun k hk q => ?_⟩
  · obtain ⟨i, a, rfl⟩ := h1.2.2 c hc q
    exact (g.2.2 i a).2
  · obtain ⟨i, a, rfl⟩ := h2.2.2 k hk q
    refine (congrFun (g.1.i (CoA.no (fun j b o ho => ?_))) 2).trans (hlt i a)
    exact hi.ne (lv_c (h1.1 j b).1 ho) (lv_l hk) (by have := (h1.1 j b).1; omega)
theorem gt_ba (g : frm (GtA (bO α p) (eO α)) M1 M2) : frm (BA τ α p) M1 M2 := g.mono fun a => by
  rintro (⟨o, h2, h42, e⟩ | e | e)
  · exact ⟨_, .inr (.inr (.inl ⟨by omega, by omega⟩)), e⟩
  · exact ⟨25, .inl rfl, e⟩
  · exact ⟨26, .inr (.inl rfl), e⟩
theorem bk_ba (g : frm (BkA (bO α p)) M1 M2) : frm (BA τ α p) M1 M2 := g.mono fun a => by
  rintro ⟨o, h2, h42, e⟩
  exact ⟨_, .inr (.inr (.inl ⟨by omega, by omega⟩)), e⟩
theorem sh_ba (h3 : EnG τ p ng gn) (g : frm (ShA (bO α p) ng (fun i => aO α (gn i))) M1 M2) : frm (BA τ α p) M1 M2 := g.mono fun a => by
  rintro (e | e | ⟨i, a, e⟩)
  · exact ⟨29 + 57 * p + (15 + 40), .inr (.inr (.inl ⟨by omega, by omega⟩)), e⟩
  · exact ⟨29 + 57 * p + (15 + 41), .inr (.inr (.inl ⟨by omega, by omega⟩)), e⟩
  · exact ⟨1100 + 2 * gn i + 1, .inr (.inr (.inr ⟨gn i, (h3.1 i a).1, (h3.1 i a).2, rfl⟩)), e⟩
theorem gd_of (hi : INJ τ α) (hw : WF τ) (hp : p < 6) (h1 : EnN (fun c => un τ 0 c = p) (un τ 9 9) nc cn) : ∀ a, GtA (bO α p) (eO α) a → a ≠ hO α p 0 ∧ a ≠ hO α p 1 ∧ (∀ q, q < 3 → a ≠ hO α p (11 + q)) ∧ ∀ i, i < nc → ∀ o, o < 10 → a ≠ cO α (cn i) o := by
  have key : ∀ k, k < 476 → ¬ (29 + 57 * p ≤ k ∧ k < 44 + 57 * p) → α k ≠ hO α p 0 ∧ α k ≠ hO α p 1 ∧ (∀ q, q < 3 → α k ≠ hO α p (11 + q)) ∧ ∀ i, i < nc → ∀ o, o < 10 → α k ≠ cO α (cn i) o := fun k hk hn =>
    ⟨hi.ne (lv_s hk) (lv_h hp (by decide)) (by omega), hi.ne (lv_s hk) (lv_h hp (by decide)) (by omega), fun q hq => hi.ne (lv_s hk) (lv_h hp (by omega)) (by omega), fun i a o ho => hi.ne (lv_s hk) (lv_c (h1.1 i a).1 ho) (by omega)⟩
  rintro a (⟨o, h2, h42, rfl⟩ | rfl | rfl)
  · exact key _ (by omega) (by omega)
  · exact key 25 (by omega) (by omega)
  · exact key 26 (by omega) (by omega)
theorem fe_of (hi : INJ τ α) (hp : p < 6) : ∀ o, o < 42 → ∀ r, r < 23 → bO α p o ≠ eO α r := fun o ho r hr => hi.ne (lv_b hp ho) (lv_s (show 4 + r < 476 by omega)) (by omega)
theorem sd_of (hi : INJ τ α) (hw : WF τ) (hp : p < 6) (h3 : EnG τ p ng gn) : ∀ a, ShA (bO α p) ng (fun i => aO α (gn i)) a → a ≠ hO α p 3 ∧ a ≠ hO α p 14 ∧ a ≠ bO α p 39 ∧ ∀ i, i < ng → a ≠ aO α (gn i) 0 := by
  have h44 := hw.ng.2
  rintro a (rfl | rfl | ⟨j, hj, rfl⟩)
  · have l := lv_b (τ := τ) hp (show 40 < 42 by decide)
    exact ⟨hi.ne l (lv_h hp (by decide)) (by omega), hi.ne l (lv_h hp (by decide)) (by omega), hi.ne l (lv_b hp (by decide)) (by omega), fun i a => hi.ne l (lv_a (h3.1 i a).1 (by decide)) (by omega)⟩
  · have l := lv_b (τ := τ) hp (show 41 < 42 by decide)
    exact ⟨hi.ne l (lv_h hp (by decide)) (by omega), hi.ne l (lv_h hp (by decide)) (by omega), hi.ne l (lv_b hp (by decide)) (by omega), fun i a => hi.ne l (lv_a (h3.1 i a).1 (by decide)) (by omega)⟩
  · have l := lv_a (h3.1 j hj).1 (show 1 < 2 by decide)
    exact ⟨hi.ne l (lv_h hp (by decide)) (by omega), hi.ne l (lv_h hp (by decide)) (by omega), hi.ne l (lv_b hp (by decide)) (by omega), fun i a => hi.ne l (lv_a (h3.1 i a).1 (by decide)) (by omega)⟩
theorem EnG.inj (h3 : EnG τ p ng gn) : ∀ i j, i < ng → j < ng → gn i = gn j → i = j := fun i j hi hj e => by
  have key : ∀ i j, i < j → j < ng → gn i ≠ gn j := fun i j a b z => by
    rcases h3.2.1 i j a b with q | q
    · rw [z] at q; omega
    · omega
  rcases Nat.lt_trichotomy i j with q | q | q
  · exact absurd e (key i j q hj)
  · exact q
  · exact absurd e.symm (key j i q hi)
theorem si_of (hi : INJ τ α) (h3 : EnG τ p ng gn) : ∀ j k, j < ng → k < ng → j ≠ k → aO α (gn j) 1 ≠ aO α (gn k) 1 := fun j k a b e =>
  hi.ne (lv_a (h3.1 j a).1 (by decide)) (lv_a (h3.1 k b).1 (by decide)) (by have : gn j ≠ gn k := fun z => e (h3.inj j k a b z); omega)
theorem sf_of (hi : INJ τ α) (hp : p < 6) (h3 : EnG τ p ng gn) : ∀ j, j < ng → bO α p 40 ≠ aO α (gn j) 1 ∧ bO α p 41 ≠ aO α (gn j) 1 := fun j a =>
  ⟨hi.ne (lv_b hp (by decide)) (lv_a (h3.1 j a).1 (by decide)) (by omega), hi.ne (lv_b hp (by decide)) (lv_a (h3.1 j a).1 (by decide)) (by omega)⟩
/-- months reckoned -/
def BR (τ : Mu) (p : Nat) (α : Nat → Nat) (M : Mem) (m : Nat) : Prop := ∀ k, k < m → BkR τ p (mL M) (bO α p) k ∧ mI M (bO α p 36) k = nI (homeN τ p k) ∧ ∀ e, e < 6 → mL M (bO α p (30 + e)) k = elL τ p k e
theorem BR.st {m : Nat} (h : BR τ p α M m) (g : GT (bO α p) (eO α) m M M1) (h36 : mI M1 (bO α p 36) m = nI (homeN τ p m)) (hel : ∀ x, x < 6 → mL M1 (bO α p (30 + x)) m = elL τ p m x) (r2 : mI M2 = mI M1) (r3 : BkR τ p (mL M2) (bO α p) m) (r4 : ∀ o, o < 42 → ∀ k, k ≠ m → mL M2 (bO α p o) k = mL M1 (bO α p o) k) (r5 : ∀ o, 29 ≤ o → o < 42 → o ≠ 37 → o ≠ 38 → o ≠ 39 → mL M2 (bO α p o) = mL M1 (bO α p o)) : BR τ p α M2 (m + 1) := by
  intro k hk
  by_cases e : k = m
  · subst e
    exact ⟨r3, by rw [r2]; exact h36, fun x hx => by rw [r5 (30 + x) (by omega) (by omega) (by omega) (by omega) (by omega)]; exact hel x hx⟩
  · obtain ⟨a, b, c⟩ := h k (by omega)
    refine ⟨a.cg (fun o _ ho => (r4 o (by omega) k e).trans (g.2.1 o (by omega) k e)), ?_, fun x hx => ((r4 _ (by omega) k e).trans (g.2.1 _ (by omega) k e)).trans (c x hx)⟩
    rw [r2]
    exact (g.2.2 k e).trans b
theorem BR.pr {m : Nat} (h : BR τ p α M m) (g : GT (bO α p) (eO α) m M M1) : m % 12 ≠ 0 → ∀ q, q < 3 → mL M1 (bO α p (14 + q)) (m - 1) = gY τ p q (m / 12) (m % 12) ∧ mL M1 (bO α p (18 + q)) (m - 1) = ctY τ p q (m / 12) (m % 12) ∧ mL M1 (bO α p (22 + q)) (m - 1) = txY τ p q (m / 12) (m % 12) ∧ mL M1 (bO α p (26 + q)) (m - 1) = duL τ p (m - 1) q := by
  intro hm q hq
  obtain ⟨⟨a, _⟩, _⟩ := h (m - 1) (by omega)
  obtain ⟨_, _, _, a4, a5, a6, a7⟩ := a q hq
  have e : ∀ o, o < 42 → mL M1 (bO α p o) (m - 1) = mL M (bO α p o) (m - 1) := fun o ho => g.2.1 o ho (m - 1) (by omega)
  rw [e (14 + q) (by omega), e (18 + q) (by omega), e (22 + q) (by omega), e (26 + q) (by omega), a4, a5, a6, a7]
  have e1 : m / 12 = (m - 1) / 12 := by omega
  have e2 : m % 12 = (m - 1) % 12 + 1 := by omega
  have e3 : (m - 1) / 12 * 12 + (m - 1) % 12 = m - 1 := by omega
  rw [e1, e2]
  refine ⟨?_, rfl, ?_, rfl⟩
  · show _ = gY τ p q ((m - 1) / 12) ((m - 1) % 12) + grL τ p ((m - 1) / 12 * 12 + (m - 1) % 12) q
    rw [e3]
  · show _ = txY τ p q ((m - 1) / 12) ((m - 1) % 12) + txL τ p ((m - 1) / 12 * 12 + (m - 1) % 12) q
    rw [e3]
theorem bf_of (hi : INJ τ α) (hw : WF τ) (hp : p < 6) (w : WS τ G α M) (h3 : EnG τ p ng gn) (hr : BR τ p α M 24) (hc : CLf τ p α M) (hs : SH τ p (bO α p) ng gn (fun i => aO α (gn i)) 24 0 M M1) : BF τ p α (wI M1 (bO α p 0) 0 (nI 0)) := by
  have hc1 := hc.ba hw hi hp (sh_ba h3 hs.1)
  have hb := w.bk hp
  have hne : ∀ o, o < 40 → ¬ ShA (bO α p) ng (fun i => aO α (gn i)) (bO α p o) := fun o ho => by
    rintro (z | z | ⟨i, a, z⟩)
    · exact bk_n hb (show o < 42 by omega) (by decide) (by omega) z
    · exact bk_n hb (show o < 42 by omega) (by decide) (by omega) z
    · exact hi.ne (lv_b hp (show o < 42 by omega)) (lv_a (h3.1 i a).1 (by decide)) (by omega) z
  refine ⟨fun m hm => ?_, fun g hg q k hk => ?_, fun c hc2 q => ?_, fun k hk q => ?_⟩
  · obtain ⟨a, b, c⟩ := hr m hm
    refine ⟨a.cg (fun o _ ho => congrFun (hs.1.l (hne o ho)) m), ?_, fun x hx => (congrFun (hs.1.l (hne (30 + x) (by omega))) m).trans (c x hx), hs.2.1 m hm⟩
    rw [wI_a (bk_n hb (show 36 < 42 by decide) (show 0 < 42 by decide) (by decide)), hs.1.i (hne 36 (by decide))]
    exact b
  · obtain ⟨i, a, rfl⟩ := h3.2.2 g hg q
    exact hs.2.2 i a k (by rw [if_neg (Nat.not_lt_zero _)]; exact hk)
  · obtain ⟨d1, d2⟩ := hc1.1 c hc2 q
    refine ⟨fun m hm => ⟨(d1 m hm).1, ?_⟩, d2⟩
    rw [show mI (wI M1 (bO α p 0) 0 (nI 0)) (cO α c 8) = mI M1 (cO α c 8) from wI_a (hi.ne (lv_c hc2 (show 8 < 10 by decide)) (lv_b hp (show 0 < 42 by decide)) (by omega))]
    exact (d1 m hm).2
  · rw [show mI (wI M1 (bO α p 0) 0 (nI 0)) (lO α k) = mI M1 (lO α k) from wI_a (hi.ne (lv_l hk) (lv_b hp (show 0 < 42 by decide)) (by omega))]
    exact hc1.2 k hk q
end Bo
theorem BA.b0 {τ : Mu} {α : Nat → Nat} {p : Nat} : BA τ α p (bO α p 0) := ⟨29 + 57 * p + 15, .inr (.inr (.inl ⟨by omega, by omega⟩)), rfl⟩

