/-! THE CLASS: a month reckoned -/
/-- the book's own cells but the object -/
def BkA (f : Nat → Nat) (a : Nat) : Prop := ∃ o, 2 ≤ o ∧ o < 42 ∧ a = f o
def BkR (τ : Mu) (p : Nat) (j : Nat → Nat → Int64) (f : Nat → Nat) (k : Nat) : Prop :=
  (∀ q, q < 3 → j (f (2 + q)) k = grL τ p k q ∧ j (f (6 + q)) k = coL τ p k q ∧ j (f (10 + q)) k = taL τ p k q ∧ j (f (14 + q)) k = gY τ p q (k / 12) (k % 12) + grL τ p k q ∧ j (f (18 + q)) k = ctY τ p q (k / 12) (k % 12 + 1) ∧ j (f (22 + q)) k = txY τ p q (k / 12) (k % 12) + txL τ p k q ∧ j (f (26 + q)) k = duL τ p k q) ∧
  j (f 37) k = pnL τ p k ∧ j (f 38) k = mtL τ p k ∧ j (f 39) k = ntL τ p k
/-- contributions of the places ahead of q are reckoned -/
def RK1 (τ : Mu) (p m : Nat) (f : Nat → Nat) (M : Mem) (q : Nat) (M1 : Mem) : Prop := frm (BkA f) M M1 ∧ mI M1 = mI M ∧
  (∀ i, i < q → mL M1 (f (6 + i)) m = coL τ p m i ∧ mL M1 (f (14 + i)) m = gY τ p i (m / 12) (m % 12) + grL τ p m i ∧ mL M1 (f (18 + i)) m = ctY τ p i (m / 12) (m % 12 + 1)) ∧
  (∀ o, o < 42 → ¬ (∃ i, i < q ∧ (o = 6 + i ∨ o = 14 + i ∨ o = 18 + i)) → mL M1 (f o) = mL M (f o)) ∧ ∀ o, o < 42 → ∀ k, k ≠ m → mL M1 (f o) k = mL M (f o) k
theorem RK1.step {τ : Mu} {p m q : Nat} {f : Nat → Nat} {M M1 M2 : Mem} (hb : Blk tbBk (mK M1) (mN M1) (mR M1) f) (h : RK1 τ p m f M q M1) (hq : q < 3) (hf : frm (fun a => a = f (6 + q) ∨ a = f (14 + q) ∨ a = f (18 + q)) M1 M2) (hi : mI M2 = mI M1)
    (h6 : mL M2 (f (6 + q)) m = coL τ p m q) (h14 : mL M2 (f (14 + q)) m = gY τ p q (m / 12) (m % 12) + grL τ p m q) (h18 : mL M2 (f (18 + q)) m = ctY τ p q (m / 12) (m % 12 + 1)) (ho : ∀ k, k ≠ m → mL M2 (f (6 + q)) k = mL M1 (f (6 + q)) k ∧ mL M2 (f (14 + q)) k = mL M1 (f (14 + q)) k ∧ mL M2 (f (18 + q)) k = mL M1 (f (18 + q)) k) : RK1 τ p m f M (q + 1) M2 := by
  obtain ⟨a1, a2, a3, a4, a5⟩ := h
  have off : ∀ o, o < 42 → o ≠ 6 + q → o ≠ 14 + q → o ≠ 18 + q → mL M2 (f o) = mL M1 (f o) := fun o h1 h2 h3 h4 => hf.l (fun z => by
    rcases z with z | z | z
    · exact bk_n hb h1 (by omega) h2 z
    · exact bk_n hb h1 (by omega) h3 z
    · exact bk_n hb h1 (by omega) h4 z)
  refine ⟨a1.tr (hf.mono (fun a z => ?_)), hi.trans a2, fun i hi2 => ?_, fun o h1 h2 => ?_, fun o h1 k hk => ?_⟩
  · rcases z with z | z | z
    · exact ⟨6 + q, by omega, by omega, z⟩
    · exact ⟨14 + q, by omega, by omega, z⟩
    · exact ⟨18 + q, by omega, by omega, z⟩
  · by_cases e : i = q
    · subst e; exact ⟨h6, h14, h18⟩
    · rw [off _ (by omega) (by omega) (by omega) (by omega), off _ (by omega) (by omega) (by omega) (by omega), off _ (by omega) (by omega) (by omega) (by omega)]
      exact a3 i (by omega)
  · rw [off o h1 (fun e => h2 ⟨q, by omega, .inl e⟩) (fun e => h2 ⟨q, by omega, .inr (.inl e)⟩) (fun e => h2 ⟨q, by omega, .inr (.inr e)⟩)]
    exact a4 o h1 (fun ⟨i, b1, b2⟩ => h2 ⟨i, by omega, b2⟩)
  · by_cases e1 : o = 6 + q
    · subst e1; exact (ho k hk).1.trans (a5 _ h1 k hk)
    by_cases e2 : o = 14 + q
    · subst e2; exact (ho k hk).2.1.trans (a5 _ h1 k hk)
    by_cases e3 : o = 18 + q
    · subst e3; exact (ho k hk).2.2.trans (a5 _ h1 k hk)
    · rw [off o h1 e1 e2 e3]; exact a5 o h1 k hk
def RK2 (τ : Mu) (p m : Nat) (f : Nat → Nat) (M : Mem) (q : Nat) (M1 : Mem) : Prop := frm (BkA f) M M1 ∧ mI M1 = mI M ∧
  (∀ i, i < q → mL M1 (f (10 + i)) m = taL τ p m i ∧ mL M1 (f (22 + i)) m = txY τ p i (m / 12) (m % 12) + txL τ p m i ∧ mL M1 (f (26 + i)) m = duL τ p m i) ∧
  (∀ o, o < 42 → ¬ (∃ i, i < q ∧ (o = 10 + i ∨ o = 22 + i ∨ o = 26 + i)) → mL M1 (f o) = mL M (f o)) ∧ ∀ o, o < 42 → ∀ k, k ≠ m → mL M1 (f o) k = mL M (f o) k
theorem RK2.step {τ : Mu} {p m q : Nat} {f : Nat → Nat} {M M1 M2 : Mem} (hb : Blk tbBk (mK M1) (mN M1) (mR M1) f) (h : RK2 τ p m f M q M1) (hq : q < 3) (hf : frm (fun a => a = f (10 + q) ∨ a = f (22 + q) ∨ a = f (26 + q)) M1 M2) (hi : mI M2 = mI M1)
    (h6 : mL M2 (f (10 + q)) m = taL τ p m q) (h14 : mL M2 (f (22 + q)) m = txY τ p q (m / 12) (m % 12) + txL τ p m q) (h18 : mL M2 (f (26 + q)) m = duL τ p m q) (ho : ∀ k, k ≠ m → mL M2 (f (10 + q)) k = mL M1 (f (10 + q)) k ∧ mL M2 (f (22 + q)) k = mL M1 (f (22 + q)) k ∧ mL M2 (f (26 + q)) k = mL M1 (f (26 + q)) k) : RK2 τ p m f M (q + 1) M2 := by
  obtain ⟨a1, a2, a3, a4, a5⟩ := h
  have off : ∀ o, o < 42 → o ≠ 10 + q → o ≠ 22 + q → o ≠ 26 + q → mL M2 (f o) = mL M1 (f o) := fun o h1 h2 h3 h4 => hf.l (fun z => by
    rcases z with z | z | z
    · exact bk_n hb h1 (by omega) h2 z
    · exact bk_n hb h1 (by omega) h3 z
    · exact bk_n hb h1 (by omega) h4 z)
  refine ⟨a1.tr (hf.mono (fun a z => ?_)), hi.trans a2, fun i hi2 => ?_, fun o h1 h2 => ?_, fun o h1 k hk => ?_⟩
  · rcases z with z | z | z
    · exact ⟨10 + q, by omega, by omega, z⟩
    · exact ⟨22 + q, by omega, by omega, z⟩
    · exact ⟨26 + q, by omega, by omega, z⟩
  · by_cases e : i = q
    · subst e; exact ⟨h6, h14, h18⟩
    · rw [off _ (by omega) (by omega) (by omega) (by omega), off _ (by omega) (by omega) (by omega) (by omega), off _ (by omega) (by omega) (by omega) (by omega)]
      exact a3 i (by omega)
  · rw [off o h1 (fun e => h2 ⟨q, by omega, .inl e⟩) (fun e => h2 ⟨q, by omega, .inr (.inl e)⟩) (fun e => h2 ⟨q, by omega, .inr (.inr e)⟩)]
    exact a4 o h1 (fun ⟨i, b1, b2⟩ => h2 ⟨i, by omega, b2⟩)
  · by_cases e1 : o = 10 + q
    · subst e1; exact (ho k hk).1.trans (a5 _ h1 k hk)
    by_cases e2 : o = 22 + q
    · subst e2; exact (ho k hk).2.1.trans (a5 _ h1 k hk)
    by_cases e3 : o = 26 + q
    · subst e3; exact (ho k hk).2.2.trans (a5 _ h1 k hk)
    · rw [off o h1 e1 e2 e3]; exact a5 o h1 k hk
/-- what is taken off, behind r taxes -/
def lsT (τ : Mu) (p m : Nat) : Nat → Int64
  | 0 => sumL (fun i => coL τ p m i) 3 + pnL τ p m
  | r + 1 => lsT τ p m r + taL τ p m r
theorem sum3 (τ : Mu) (p m : Nat) : sumL (fun i => grL τ p m i) 3 = allL τ p m := by
  show 0 + grL τ p m 0 + grL τ p m 1 + grL τ p m 2 = _
  rw [Int64.zero_add]
  rfl
theorem nt_eq (τ : Mu) (p m : Nat) : sumL (fun i => grL τ p m i) 3 - lsT τ p m 3 = ntL τ p m := by
  rw [sum3]
  show allL τ p m - (0 + coL τ p m 0 + coL τ p m 1 + coL τ p m 2 + pnL τ p m + taL τ p m 0 + taL τ p m 1 + taL τ p m 2) = allL τ p m - pnL τ p m - (coL τ p m 0 + taL τ p m 0) - (coL τ p m 1 + taL τ p m 1) - (coL τ p m 2 + taL τ p m 2)
  generalize allL τ p m = a
  generalize pnL τ p m = b
  generalize coL τ p m 0 = c0
  generalize coL τ p m 1 = c1
  generalize coL τ p m 2 = c2
  generalize taL τ p m 0 = t0
  generalize taL τ p m 1 = t1
  generalize taL τ p m 2 = t2
  simp only [Int64.zero_add, Int64.sub_eq_add_neg, Int64.neg_add]
  ac_rfl
theorem mt_eq {τ : Mu} (hw : WF τ) {p m : Nat} (hp : p < 6) (hm : m < 24) : lmax (lN 0) (rdF (sumL (fun i => grL τ p m i) 3 * lN (min (ptN τ p m) 50)) (lN 1000)) = mtL τ p m := by
  have hpt := ptN_le hw hp hm
  rw [sum3, rdF_rnd (by decide) (by decide), pn_max (allL_bd hw hp hm) (Nat.le_refl _) (by omega)]
  unfold mtL
  rw [show (if ptN τ p m < 50 then ptN τ p m else 50) = min (ptN τ p m) 50 by split <;> omega]
theorem pn_eq {τ : Mu} (hw : WF τ) {p m : Nat} (hp : p < 6) (hm : m < 24) : lmax (lN 0) (rdF (sumL (fun i => grL τ p m i) 3 * lN (ptN τ p m)) (lN 1000)) = pnL τ p m := by
  have hpt := ptN_le hw hp hm
  rw [sum3, rdF_rnd (by decide) (by decide), pn_max (allL_bd hw hp hm) (Nat.le_refl _) hpt]
  rfl
theorem rk_end {τ : Mu} {p m : Nat} {f : Nat → Nat} {M M1 M2 : Mem} (hb : Blk tbBk (mK M) (mN M) (mR M) f) (hrk : RK1 τ p m f M 3 M1) (htk : RK2 τ p m f (wL (wL M1 (f 37) m (pnL τ p m)) (f 38) m (mtL τ p m)) 3 M2) (hgr : ∀ q, q < 3 → mL M (f (2 + q)) m = grL τ p m q) :
    (none : Option Value) = none ∧ frm (BkA f) M (wL M2 (f 39) m (ntL τ p m)) ∧ mI (wL M2 (f 39) m (ntL τ p m)) = mI M ∧ BkR τ p (mL (wL M2 (f 39) m (ntL τ p m))) f m ∧ (∀ o, o < 42 → ∀ k, k ≠ m → mL (wL M2 (f 39) m (ntL τ p m)) (f o) k = mL M (f o) k) ∧ ∀ o, 29 ≤ o → o < 42 → o ≠ 37 → o ≠ 38 → o ≠ 39 → mL (wL M2 (f 39) m (ntL τ p m)) (f o) = mL M (f o) := by
  obtain ⟨a1, a2, a3, a4, a5⟩ := hrk
  obtain ⟨c1, c2, c3, c4, c5⟩ := htk
  have nr1 : ∀ {o : Nat}, (o < 6 ∨ 9 ≤ o ∧ o < 14 ∨ 21 ≤ o) → ¬ ∃ i, i < 3 ∧ (o = 6 + i ∨ o = 14 + i ∨ o = 18 + i) := fun h ⟨i, z1, z2⟩ => by omega
  have nr2 : ∀ {o : Nat}, (o < 10 ∨ 13 ≤ o ∧ o < 22 ∨ 29 ≤ o) → ¬ ∃ i, i < 3 ∧ (o = 10 + i ∨ o = 22 + i ∨ o = 26 + i) := fun h ⟨i, z1, z2⟩ => by omega
  have hMB : ∀ o, o < 42 → o ≠ 37 → o ≠ 38 → mL (wL (wL M1 (f 37) m (pnL τ p m)) (f 38) m (mtL τ p m)) (f o) = mL M1 (f o) := fun o h1 h2 h3 => (wL_a (bk_n hb h1 (by decide) h3)).trans (wL_a (bk_n hb h1 (by decide) h2))
  have h39 : ∀ o, o < 42 → o ≠ 39 → mL (wL M2 (f 39) m (ntL τ p m)) (f o) = mL M2 (f o) := fun o h1 h2 => wL_a (bk_n hb h1 (by decide) h2)
  refine ⟨rfl, ((a1.wl _ _ ⟨37, by decide, by decide, rfl⟩ |>.wl _ _ ⟨38, by decide, by decide, rfl⟩).tr c1).wl _ _ ⟨39, by decide, by decide, rfl⟩, ?_, ⟨fun q hq => ⟨?_, ?_, ?_, ?_, ?_, ?_, ?_⟩, ?_, ?_, wL_i⟩, fun o ho k hk => ?_, fun o h1 h2 h3 h4 h5 => ?_⟩
  · show mI M2 = mI M
    rw [c2]; exact a2
  · rw [h39 _ (by omega) (by omega), c4 _ (by omega) (nr2 (by omega)), hMB _ (by omega) (by omega) (by omega), a4 _ (by omega) (nr1 (by omega))]; exact hgr q hq
  · rw [h39 _ (by omega) (by omega), c4 _ (by omega) (nr2 (by omega)), hMB _ (by omega) (by omega) (by omega)]; exact (a3 q hq).1
  · rw [h39 _ (by omega) (by omega)]; exact (c3 q hq).1
  · rw [h39 _ (by omega) (by omega), c4 _ (by omega) (nr2 (by omega)), hMB _ (by omega) (by omega) (by omega)]; exact (a3 q hq).2.1
  · rw [h39 _ (by omega) (by omega), c4 _ (by omega) (nr2 (by omega)), hMB _ (by omega) (by omega) (by omega)]; exact (a3 q hq).2.2
  · rw [h39 _ (by omega) (by omega)]; exact (c3 q hq).2.1
  · rw [h39 _ (by omega) (by omega)]; exact (c3 q hq).2.2
  · rw [h39 _ (by omega) (by omega), c4 _ (by omega) (nr2 (by omega)), wL_a (hb.ne 37 38 rfl), wL_i]
  · rw [h39 _ (by omega) (by omega), c4 _ (by omega) (nr2 (by omega)), wL_i]
  · by_cases e : o = 39
    · subst e
      rw [wL_k hk, c5 _ ho k hk, hMB _ (by omega) (by omega) (by omega)]; exact a5 _ ho k hk
    · rw [h39 o ho e, c5 _ ho k hk]
      by_cases e2 : o = 38
      · subst e2; rw [wL_k hk, wL_a (hb.ne 38 37 rfl)]; exact a5 _ ho k hk
      by_cases e1 : o = 37
      · subst e1; rw [wL_a (hb.ne 37 38 rfl), wL_k hk]; exact a5 _ ho k hk
      · rw [hMB o ho e1 e2]; exact a5 _ ho k hk
  · rw [h39 o h2 h5, c4 o h2 (nr2 (by omega)), hMB o h2 h3 h4, a4 o h2 (nr1 (by omega))]
set_option maxHeartbeats 4000000 in
set_option maxRecDepth 100000 in
theorem c_X0_reckon (l : Launch) (hfl : l.flags = flags0) (G : gW) (M : Mem) (f : Nat → Nat) (hb : Blk tbBk (mK M) (mN M) (mR M) f) (τ : Mu) (hw : WF τ) (p m : Nat) (hp : p < 6) (hm : m < 24) (h : Nat → Nat) (P : Nat) (g : Nat → Nat → Nat) (hP : mK M P = 25 ∧ mN M P = 3 ∧ ∀ q, q < 3 → mR M P q = some (g q 0)) (hst : ∀ M1 : Mem, frm (BkA f) M M1 → PeT τ p M1 h ∧ ∀ q, q < 3 → PlT τ q M1 (g q)) (hgr : ∀ q, q < 3 → mL M (f (2 + q)) m = grL τ p m q) (hho : mI M (f 36) m = nI (homeN τ p m)) (hpr : m % 12 ≠ 0 → ∀ q, q < 3 → mL M (f (14 + q)) (m - 1) = gY τ p q (m / 12) (m % 12) ∧ mL M (f (18 + q)) (m - 1) = ctY τ p q (m / 12) (m % 12) ∧ mL M (f (22 + q)) (m - 1) = txY τ p q (m / 12) (m % 12) ∧ mL M (f (26 + q)) (m - 1) = duL τ p (m - 1) q) : CT l yX0_reckon cX0_reckon 10 none 3 0 0 95 G M [.ref (f 0), .int (nI m), .ref (h 0), .ref P] (fun v M' => v = none ∧ frm (BkA f) M M' ∧ mI M' = mI M ∧ BkR τ p (mL M') f m ∧ (∀ o, o < 42 → ∀ k, k ≠ m → mL M' (f o) k = mL M (f o) k) ∧ ∀ o, 29 ≤ o → o < 42 → o ≠ 37 → o ≠ 38 → o ≠ 39 → mL M' (f o) = mL M (f o)) := by
  refine CT.of hfl rfl (Nat.le_of_ble_eq_true rfl) ?_
  intro pp ee ss mm ar bw mt cd C hgX hr hini
  have hbO := hb
  have hptl := ptN_le hw hp hm
  have hstl := stN_le hw hp hm
  refine V.eLo (lo' := [(0, .ref (f 0)), (1, .int (nI m)), (2, .ref (h 0)), (3, .ref P)]) rfl ?_
  refine r_lconst C (v := lN 0) dX0_reckon_0 (by decide) ?_
  refine r_lstore C (lo' := [(4, .long (lN 0)), (0, .ref (f 0)), (1, .int (nI m)), (2, .ref (h 0)), (3, .ref P)]) dX0_reckon_1 (by decide) rfl ?_
  refine r_lconst C (v := lN 0) dX0_reckon_3 (by decide) ?_
  refine r_lstore C (lo' := [(6, .long (lN 0)), (4, .long (lN 0)), (0, .ref (f 0)), (1, .int (nI m)), (2, .ref (h 0)), (3, .ref P)]) dX0_reckon_4 (by decide) rfl ?_
  refine r_iconst C (v := nI 0) dX0_reckon_6 (by decide) ?_
  refine r_istore C (lo' := [(8, .int (nI 0)), (6, .long (lN 0)), (4, .long (lN 0)), (0, .ref (f 0)), (1, .int (nI m)), (2, .ref (h 0)), (3, .ref P)]) dX0_reckon_7 (by decide) rfl ?_
  have lp9 : ∀ (k9 : Nat) (M1 : Mem) (q : Nat) (hq : q ≤ 3) (hrk : RK1 τ p m f M q M1), 4 - q < k9 → V pp l ee ({ frames := 3, cells := 0, slots := 0, locals := 95 } : Room) ss mm ar bw mt cd G (MQ bw (Ke G (fun v M' => v = none ∧ frm (BkA f) M M' ∧ mI M' = mI M ∧ BkR τ p (mL M') f m ∧ (∀ o, o < 42 → ∀ k, k ≠ m → mL M' (f o) k = mL M (f o) k) ∧ ∀ o, 29 ≤ o → o < 42 → o ≠ 37 → o ≠ 38 → o ≠ 39 → mL M' (f o) = mL M (f o))) ar ss 0 0 (gA G)) 10 M1 0 0 9 [(0, .ref (f 0)), (1, .int (nI m)), (2, .ref (h 0)), (3, .ref P), (4, .long (sumL (fun i => grL τ p m i) q)), (6, .long (sumL (fun i => coL τ p m i) q)), (8, .int (nI q))] [] := by
    intro k9
    induction k9 with
    | zero => intro M1 q hq hrk hz9; exact absurd hz9 (Nat.not_lt_zero _)
    | succ k9 ih9 =>
      intro M1 q hq hrk hz9
      have hb := (hrk.1).blk hbO
      have hP1 : mK M1 P = 25 := by rw [(hrk.1).1]; exact hP.1
      have hP2 : mN M1 P = 3 := by rw [(hrk.1).2.1]; exact hP.2.1
      have hP3 : ∀ q, q < 3 → mR M1 P q = some (g q 0) := fun q z => by rw [(hrk.1).2.2.1]; exact hP.2.2 q z
      obtain ⟨⟨hhb, hhs, hhp⟩, hpl⟩ := hst M1 (hrk.1)
      refine r_iload C 6 dX0_reckon_9 rfl ?_
      refine r_iconst C (v := nI 3) dX0_reckon_11 (by decide) ?_
      refine r_icmp_geN C (t := 60) (by omega) (by omega) dX0_reckon_12 (by decide) (fun c12 => ?_) (fun c12 => ?_)
      · skip
        have eq3 : q = 3 := by omega
        subst eq3
        refine r_aload_n C 2 dX0_reckon_60 rfl rfl ?_
        refine r_getR C (b := (h 7)) fl_X0_116 rfl (hhb.k 0 11 rfl) (hhb.r 0 5 7 rfl) dX0_reckon_61 ?_
        refine r_iload_n C 1 dX0_reckon_64 rfl rfl ?_
        refine r_callV C hgX (ci := 12) ml_X0_120 im_X10_at se_X10_at rfl rfl (hhb.k 7 13 rfl) (c_X10_at l hfl G M1 (h 7) (h 8) (h 9) 24 m (⟨hhb.k 7 13 rfl, hhb.r 7 0 8 rfl, hhb.r 7 1 9 rfl, hhb.k 8 20 rfl, hhb.n 8 24 rfl, hhb.k 9 22 rfl, hhb.n 9 24 rfl⟩) (by decide) (by omega)) rfl (Nat.le_of_ble_eq_true rfl) ⟨Nat.le_of_ble_eq_true rfl, Nat.le_of_ble_eq_true rfl⟩ ⟨Nat.le_of_ble_eq_true rfl, Nat.le_of_ble_eq_true rfl⟩ dX0_reckon_65 rfl ?_
        rintro _ _ ⟨rfl, rfl⟩
        refine V.eSt (st' := [.int (mI M1 (h 8) m)]) rfl ?_
        refine V.ei (y := nI (ptN τ p m)) (hhp m hm) ?_
        refine r_istore C (lo' := [(8, .int (nI (ptN τ p m))), (0, .ref (f 0)), (1, .int (nI m)), (2, .ref (h 0)), (3, .ref P), (4, .long (sumL (fun i => grL τ p m i) 3)), (6, .long (sumL (fun i => coL τ p m i) 3))]) dX0_reckon_68 (by decide) rfl ?_
        refine r_aload_n C 1 dX0_reckon_70 rfl rfl ?_
        refine r_getR C (b := (f 37)) fl_X0_45 rfl (hb.k 0 4 rfl) (hb.r 0 10 37 rfl) dX0_reckon_71 ?_
        refine r_iload_n C 2 dX0_reckon_74 rfl rfl ?_
        refine r_lconst C (v := lN 0) dX0_reckon_75 (by decide) ?_
        refine r_lload C 5 dX0_reckon_76 rfl ?_
        refine r_iload C 0 dX0_reckon_78 rfl ?_
        refine r_i2lN C (by omega) dX0_reckon_80 ?_
        refine r_lmul C dX0_reckon_81 ?_
        refine r_ldc2 C (v := 1000) kl_X0_126 dX0_reckon_82 ?_
        refine V.el (y := lN 1000) (by decide) ?_
        refine r_callS C hgX ml_X0_128 st_X2_rounded (c_X2_rounded l hfl G M1 ((sumL (fun i => grL τ p m i) 3) * (lN (ptN τ p m))) 1000 (by omega)) rfl (Nat.le_of_ble_eq_true rfl) ⟨Nat.le_of_ble_eq_true rfl, Nat.le_of_ble_eq_true rfl⟩ ⟨Nat.le_of_ble_eq_true rfl, Nat.le_of_ble_eq_true rfl⟩ dX0_reckon_85 rfl ?_
        rintro _ _ ⟨rfl, rfl⟩
        refine V.eSt (st' := [.long (rdF ((sumL (fun i => grL τ p m i) 3) * (lN (ptN τ p m))) (lN 1000)), .long (lN 0), .int (nI m), .ref (f 37)]) rfl ?_
        refine r_maxL C km_X0_134 (Nat.le_of_ble_eq_true rfl) (Nat.le_of_ble_eq_true rfl) (by first | exact Nat.zero_le _ | decide) (by first | exact Nat.zero_le _ | decide) dX0_reckon_88 ?_
        refine V.el (y := pnL τ p m) (pn_eq hw hp hm) ?_
        refine r_lastoreN C (hb.k 37 21 rfl) (hb.n 37 24 rfl) (by omega) (by omega) dX0_reckon_91 ?_
        refine r_aload_n C 1 dX0_reckon_92 rfl rfl ?_
        refine r_getR C (b := (f 38)) fl_X0_49 rfl (hb.k 0 4 rfl) (hb.r 0 11 38 rfl) dX0_reckon_93 ?_
        refine r_iload_n C 2 dX0_reckon_96 rfl rfl ?_
        refine r_lconst C (v := lN 0) dX0_reckon_97 (by decide) ?_
        refine r_lload C 5 dX0_reckon_98 rfl ?_
        refine r_iload C 0 dX0_reckon_100 rfl ?_
        refine r_bipush C (v := nI 50) dX0_reckon_102 (by decide) ?_
        refine r_minIN C km_X0_139 (by omega) (by omega) (Nat.le_of_ble_eq_true rfl) (Nat.le_of_ble_eq_true rfl) (by first | exact Nat.zero_le _ | decide) (by first | exact Nat.zero_le _ | decide) dX0_reckon_104 ?_
        refine r_i2lN C (by omega) dX0_reckon_107 ?_
        refine r_lmul C dX0_reckon_108 ?_
        refine r_ldc2 C (v := 1000) kl_X0_126 dX0_reckon_109 ?_
        refine V.el (y := lN 1000) (by decide) ?_
        refine r_callS C hgX ml_X0_128 st_X2_rounded (c_X2_rounded l hfl G (wL M1 (f 37) m (pnL τ p m)) ((sumL (fun i => grL τ p m i) 3) * (lN (min (ptN τ p m) 50))) 1000 (by omega)) rfl (Nat.le_of_ble_eq_true rfl) ⟨Nat.le_of_ble_eq_true rfl, Nat.le_of_ble_eq_true rfl⟩ ⟨Nat.le_of_ble_eq_true rfl, Nat.le_of_ble_eq_true rfl⟩ dX0_reckon_112 rfl ?_
        rintro _ _ ⟨rfl, rfl⟩
        refine V.eSt (st' := [.long (rdF ((sumL (fun i => grL τ p m i) 3) * (lN (min (ptN τ p m) 50))) (lN 1000)), .long (lN 0), .int (nI m), .ref (f 38)]) rfl ?_
        refine r_maxL C km_X0_134 (Nat.le_of_ble_eq_true rfl) (Nat.le_of_ble_eq_true rfl) (by first | exact Nat.zero_le _ | decide) (by first | exact Nat.zero_le _ | decide) dX0_reckon_115 ?_
        refine V.el (y := mtL τ p m) (mt_eq hw hp hm) ?_
        refine r_lastoreN C (hb.k 38 21 rfl) (hb.n 38 24 rfl) (by omega) (by omega) dX0_reckon_118 ?_
        refine r_lload C 6 dX0_reckon_119 rfl ?_
        refine r_aload_n C 1 dX0_reckon_121 rfl rfl ?_
        refine r_getR C (b := (f 37)) fl_X0_45 rfl (hb.k 0 4 rfl) (hb.r 0 10 37 rfl) dX0_reckon_122 ?_
        refine r_iload_n C 2 dX0_reckon_125 rfl rfl ?_
        refine r_laloadN C (hb.k 37 21 rfl) (hb.n 37 24 rfl) (by omega) (by omega) dX0_reckon_126 ?_
        refine V.el (y := pnL τ p m) ((congrFun (wL_a (hb.ne 37 38 rfl)) m).trans wL_i) ?_
        refine r_ladd C dX0_reckon_127 ?_
        refine V.el (y := lsT τ p m 0) (rfl) ?_
        refine r_lstore C (lo' := [(6, .long (lsT τ p m 0)), (8, .int (nI (ptN τ p m))), (0, .ref (f 0)), (1, .int (nI m)), (2, .ref (h 0)), (3, .ref P), (4, .long (sumL (fun i => grL τ p m i) 3))]) dX0_reckon_128 (by decide) rfl ?_
        have hbO1 := hb
        have hfmB : frm (BkA f) M (wL (wL M1 (f 37) m (pnL τ p m)) (f 38) m (mtL τ p m)) := (hrk.1.wl _ _ ⟨37, by decide, by decide, rfl⟩).wl _ _ ⟨38, by decide, by decide, rfl⟩
        have hMB : ∀ o, o < 42 → o ≠ 37 → o ≠ 38 → mL (wL (wL M1 (f 37) m (pnL τ p m)) (f 38) m (mtL τ p m)) (f o) = mL M1 (f o) := fun o h1 h2 h3 => (wL_a (bk_n hbO1 h1 (by decide) h3)).trans (wL_a (bk_n hbO1 h1 (by decide) h2))
        refine r_iconst C (v := nI 0) dX0_reckon_130 (by decide) ?_
        refine r_istore C (lo' := [(9, .int (nI 0)), (6, .long (lsT τ p m 0)), (8, .int (nI (ptN τ p m))), (0, .ref (f 0)), (1, .int (nI m)), (2, .ref (h 0)), (3, .ref P), (4, .long (sumL (fun i => grL τ p m i) 3))]) dX0_reckon_131 (by decide) rfl ?_
        have lp133 : ∀ (k133 : Nat) (M2 : Mem) (r : Nat) (hr3 : r ≤ 3) (htk : RK2 τ p m f (wL (wL M1 (f 37) m (pnL τ p m)) (f 38) m (mtL τ p m)) r M2), 4 - r < k133 → V pp l ee ({ frames := 3, cells := 0, slots := 0, locals := 95 } : Room) ss mm ar bw mt cd G (MQ bw (Ke G (fun v M' => v = none ∧ frm (BkA f) M M' ∧ mI M' = mI M ∧ BkR τ p (mL M') f m ∧ (∀ o, o < 42 → ∀ k, k ≠ m → mL M' (f o) k = mL M (f o) k) ∧ ∀ o, 29 ≤ o → o < 42 → o ≠ 37 → o ≠ 38 → o ≠ 39 → mL M' (f o) = mL M (f o))) ar ss 0 0 (gA G)) 10 M2 0 0 133 [(0, .ref (f 0)), (1, .int (nI m)), (2, .ref (h 0)), (3, .ref P), (4, .long (sumL (fun i => grL τ p m i) 3)), (6, .long (lsT τ p m r)), (9, .int (nI r))] [] := by
          intro k133
          induction k133 with
          | zero => intro M2 r hr3 htk hz133; exact absurd hz133 (Nat.not_lt_zero _)
          | succ k133 ih133 =>
            intro M2 r hr3 htk hz133
            have hfm2 := hfmB.tr htk.1
            have hb := (hfm2).blk hbO
            have hP1 : mK M2 P = 25 := by rw [(hfm2).1]; exact hP.1
            have hP2 : mN M2 P = 3 := by rw [(hfm2).2.1]; exact hP.2.1
            have hP3 : ∀ q, q < 3 → mR M2 P q = some (g q 0) := fun q z => by rw [(hfm2).2.2.1]; exact hP.2.2 q z
            obtain ⟨⟨hhb, hhs, hhp⟩, hpl⟩ := hst M2 (hfm2)
            refine r_iload C 6 dX0_reckon_133 rfl ?_
            refine r_iconst C (v := nI 3) dX0_reckon_135 (by decide) ?_
            refine r_icmp_geN C (t := 182) (by omega) (by omega) dX0_reckon_136 (by decide) (fun c136 => ?_) (fun c136 => ?_)
            · skip
              have eq3 : r = 3 := by omega
              subst eq3
              refine r_aload_n C 0 dX0_reckon_182 rfl rfl ?_
              refine r_getR C (b := (f 39)) fl_X0_52 rfl (hb.k 0 4 rfl) (hb.r 0 12 39 rfl) dX0_reckon_183 ?_
              refine r_iload_n C 1 dX0_reckon_186 rfl rfl ?_
              refine r_lload C 4 dX0_reckon_187 rfl ?_
              refine r_lload C 5 dX0_reckon_189 rfl ?_
              refine r_lsub C dX0_reckon_191 ?_
              refine V.el (y := ntL τ p m) (nt_eq τ p m) ?_
              refine r_lastoreN C (hb.k 39 21 rfl) (hb.n 39 24 rfl) (by omega) (by omega) dX0_reckon_192 ?_
              exact r_vret C hr (rk_end hbO hrk htk hgr) (by first | exact Nat.zero_le _ | decide) (by first | exact Nat.zero_le _ | decide) dX0_reckon_193
            · skip
              have hgr_ := (hpl r (by omega)).1
              refine r_aload_n C 0 dX0_reckon_139 rfl rfl ?_
              refine r_iload_n C 1 dX0_reckon_140 rfl rfl ?_
              refine r_iload C 6 dX0_reckon_141 rfl ?_
              refine r_aload_n C 3 dX0_reckon_143 rfl rfl ?_
              refine r_iload C 6 dX0_reckon_144 rfl ?_
              refine r_aaloadN C (b := (g r 0)) 2 (by decide) hP1 hP2 (by omega) (by omega) (hP3 r (by omega)) dX0_reckon_146 ?_
              refine r_getR C (b := (g r 7)) fl_X0_143 rfl (hgr_.k 0 12 rfl) (hgr_.r 0 2 7 rfl) dX0_reckon_147 ?_
              refine r_aload_n C 2 dX0_reckon_150 rfl rfl ?_
              refine r_getR C (b := (h 4)) fl_X0_149 rfl (hhb.k 0 11 rfl) (hhb.r 0 4 4 rfl) dX0_reckon_151 ?_
              refine r_iload_n C 1 dX0_reckon_154 rfl rfl ?_
              refine r_callV C hgX (ci := 12) ml_X0_120 im_X10_at se_X10_at rfl rfl (hhb.k 4 13 rfl) (c_X10_at l hfl G M2 (h 4) (h 5) (h 6) 24 m (⟨hhb.k 4 13 rfl, hhb.r 4 0 5 rfl, hhb.r 4 1 6 rfl, hhb.k 5 20 rfl, hhb.n 5 24 rfl, hhb.k 6 22 rfl, hhb.n 6 24 rfl⟩) (by decide) (by omega)) rfl (Nat.le_of_ble_eq_true rfl) ⟨Nat.le_of_ble_eq_true rfl, Nat.le_of_ble_eq_true rfl⟩ ⟨Nat.le_of_ble_eq_true rfl, Nat.le_of_ble_eq_true rfl⟩ dX0_reckon_155 rfl ?_
              rintro _ _ ⟨rfl, rfl⟩
              refine V.eSt (st' := [.int (mI M2 (h 5) m), .ref (g r 7), .int (nI r), .int (nI m), .ref (f 0)]) rfl ?_
              refine V.ei (y := nI (stN τ p m)) (hhs m hm) ?_
              refine r_aaloadN C (b := (g r (11 + 12 * (stN τ p m)))) 0 (by decide) (hgr_.k 7 23 rfl) (hgr_.n 7 2 rfl) (by omega) (by omega) (hgr_.rp 7 11 2 12 rfl (stN τ p m) (by omega)) dX0_reckon_158 ?_
              refine r_callV C hgX (ci := 3) ml_X0_152 im_X0_tax se_X0_tax rfl rfl (hb.k 0 4 rfl) (c_X0_tax l hfl G M2 f hb (fun o => g r (11 + 12 * stN τ p m + o)) (hgr_.br _ (by omega)) τ hw p m r hp hm (by omega) ((hpl r (by omega)).2.2.2 _ (by omega)) ((congrFun (htk.2.2.2.1 (2 + r) (by omega) (fun z => by obtain ⟨i, z1, z2⟩ := z; omega)) m).trans ((congrFun (hMB (2 + r) (by omega) (by omega) (by omega)) m).trans ((congrFun (hrk.2.2.2.1 (2 + r) (by omega) (fun z => by obtain ⟨i, z1, z2⟩ := z; omega)) m).trans (hgr r (by omega))))) ((congrFun (htk.2.2.2.1 (6 + r) (by omega) (fun z => by obtain ⟨i, z1, z2⟩ := z; omega)) m).trans ((congrFun (hMB (6 + r) (by omega) (by omega) (by omega)) m).trans (hrk.2.2.1 r (by omega)).1)) ((congrFun (htk.2.2.2.1 37 (by omega) (fun z => by obtain ⟨i, z1, z2⟩ := z; omega)) m).trans ((congrFun (wL_a (hbO1.ne 37 38 rfl)) m).trans wL_i)) (by rw [htk.2.1]; show mI M1 (f 36) m = _; rw [hrk.2.1]; exact hho) (fun z => (congrFun (htk.2.2.2.1 (22 + r) (by omega) (fun z => by obtain ⟨i, z1, z2⟩ := z; omega)) (m - 1)).trans ((congrFun (hMB (22 + r) (by omega) (by omega) (by omega)) (m - 1)).trans ((congrFun (hrk.2.2.2.1 (22 + r) (by omega) (fun z => by obtain ⟨i, z1, z2⟩ := z; omega)) (m - 1)).trans (hpr z r (by omega)).2.2.1))) (fun z => (congrFun (htk.2.2.2.1 (26 + r) (by omega) (fun z => by obtain ⟨i, z1, z2⟩ := z; omega)) (m - 1)).trans ((congrFun (hMB (26 + r) (by omega) (by omega) (by omega)) (m - 1)).trans ((congrFun (hrk.2.2.2.1 (26 + r) (by omega) (fun z => by obtain ⟨i, z1, z2⟩ := z; omega)) (m - 1)).trans (hpr z r (by omega)).2.2.2)))) rfl (Nat.le_of_ble_eq_true rfl) ⟨Nat.le_of_ble_eq_true rfl, Nat.le_of_ble_eq_true rfl⟩ ⟨Nat.le_of_ble_eq_true rfl, Nat.le_of_ble_eq_true rfl⟩ dX0_reckon_159 rfl ?_
              rintro _ My1 ⟨rfl, hfm1, h10_1, h22_1, h26_1, ho_1, hmi1⟩
              have hbq := hb
              have hb := hfm1.blk hb
              have htk2 := RK2.step hbq htk (show r < 3 by omega) hfm1 hmi1 h10_1 h22_1 h26_1 ho_1
              refine r_lload C 5 dX0_reckon_162 rfl ?_
              refine r_aload_n C 0 dX0_reckon_164 rfl rfl ?_
              refine r_getR C (b := (f 9)) fl_X0_23 rfl (hb.k 0 4 rfl) (hb.r 0 3 9 rfl) dX0_reckon_165 ?_
              refine r_iload C 6 dX0_reckon_168 rfl ?_
              refine r_aaloadN C (b := (f (10 + r))) 5 (by decide) (hb.k 9 28 rfl) (hb.n 9 3 rfl) (by omega) (by omega) (hb.ro 9 10 3 1 rfl r (by omega)) dX0_reckon_170 ?_
              refine r_iload_n C 1 dX0_reckon_171 rfl rfl ?_
              refine r_laloadN C (hb.ko 10 21 3 rfl r (by omega)) (hb.no 10 24 3 rfl r (by omega)) (by omega) (by omega) dX0_reckon_172 ?_
              refine V.el (y := taL τ p m r) ((htk2.2.2.1 r (by omega)).1) ?_
              refine r_ladd C dX0_reckon_173 ?_
              refine r_lstore C (lo' := [(6, .long ((lsT τ p m r) + (taL τ p m r))), (0, .ref (f 0)), (1, .int (nI m)), (2, .ref (h 0)), (3, .ref P), (4, .long (sumL (fun i => grL τ p m i) 3)), (9, .int (nI r))]) dX0_reckon_174 (by decide) rfl ?_
              refine r_iinc C (v := nI (r + 1)) (lo' := [(9, .int (nI (r + 1))), (6, .long ((lsT τ p m r) + (taL τ p m r))), (0, .ref (f 0)), (1, .int (nI m)), (2, .ref (h 0)), (3, .ref P), (4, .long (sumL (fun i => grL τ p m i) 3))]) 6 dX0_reckon_176 rfl (nI_addI r 1) (by decide) rfl ?_
              refine r_goto C (t := 133) dX0_reckon_179 (by decide) ?_
              have jb6 : ((lsT τ p m r) + (taL τ p m r)) = (lsT τ p m (r + 1)) := by rfl
              refine V.eLo (lo' := [(9, .int (nI (r + 1))), (6, .long (lsT τ p m (r + 1))), (0, .ref (f 0)), (1, .int (nI m)), (2, .ref (h 0)), (3, .ref P), (4, .long (sumL (fun i => grL τ p m i) 3))]) (congrArg (fun z_ => ([(9, .int (nI (r + 1))), (6, .long z_), (0, .ref (f 0)), (1, .int (nI m)), (2, .ref (h 0)), (3, .ref P), (4, .long (sumL (fun i => grL τ p m i) 3))] : List (Nat × Value))) jb6) ?_
              refine V.sub [2, 3, 4, 5, 6, 1, 0] (lo' := [(0, .ref (f 0)), (1, .int (nI m)), (2, .ref (h 0)), (3, .ref P), (4, .long (sumL (fun i => grL τ p m i) 3)), (6, .long (lsT τ p m (r + 1))), (9, .int (nI (r + 1)))]) rfl ?_
              exact ih133 My1 (r + 1) (by omega) htk2 (by omega)
        refine V.sub [3, 4, 5, 6, 7, 1, 0] (lo' := [(0, .ref (f 0)), (1, .int (nI m)), (2, .ref (h 0)), (3, .ref P), (4, .long (sumL (fun i => grL τ p m i) 3)), (6, .long (lsT τ p m 0)), (9, .int (nI 0))]) rfl ?_
        exact lp133 _ (wL (wL M1 (f 37) m (pnL τ p m)) (f 38) m (mtL τ p m)) 0 (Nat.zero_le _) (⟨frm.rf _ _, rfl, fun i hi => absurd hi (Nat.not_lt_zero _), fun _ _ _ => rfl, fun _ _ _ _ => rfl⟩) (Nat.lt_succ_self _)
      · skip
        refine r_aload_n C 0 dX0_reckon_15 rfl rfl ?_
        refine r_iload_n C 1 dX0_reckon_16 rfl rfl ?_
        refine r_iload C 6 dX0_reckon_17 rfl ?_
        refine r_aload_n C 3 dX0_reckon_19 rfl rfl ?_
        refine r_iload C 6 dX0_reckon_20 rfl ?_
        refine r_aaloadN C (b := (g q 0)) 2 (by decide) hP1 hP2 (by omega) (by omega) (hP3 q (by omega)) dX0_reckon_22 ?_
        refine r_callV C hgX (ci := 3) ml_X0_112 im_X0_contribute se_X0_contribute rfl rfl (hb.k 0 4 rfl) (c_X0_contribute l hfl G M1 f hb (g q) (hpl q (by omega)).1 τ hw p m q hm (by omega) ((hpl q (by omega)).2.1 m hm) ((hpl q (by omega)).2.2.1 m hm) ((congrFun (hrk.2.2.2.1 (2 + q) (by omega) (fun z => by obtain ⟨i, z1, z2⟩ := z; omega)) m).trans (hgr q (by omega))) (fun z => (congrFun (hrk.2.2.2.1 (14 + q) (by omega) (fun z => by obtain ⟨i, z1, z2⟩ := z; omega)) (m - 1)).trans (hpr z q (by omega)).1) (fun z => (congrFun (hrk.2.2.2.1 (18 + q) (by omega) (fun z => by obtain ⟨i, z1, z2⟩ := z; omega)) (m - 1)).trans (hpr z q (by omega)).2.1)) rfl (Nat.le_of_ble_eq_true rfl) ⟨Nat.le_of_ble_eq_true rfl, Nat.le_of_ble_eq_true rfl⟩ ⟨Nat.le_of_ble_eq_true rfl, Nat.le_of_ble_eq_true rfl⟩ dX0_reckon_23 rfl ?_
        rintro _ My2 ⟨rfl, hfm2, h6_2, h14_2, h18_2, ho_2, hmi2⟩
        have hbq := hb
        have hb := hfm2.blk hb
        have hrk2 := RK1.step hbq hrk (show q < 3 by omega) hfm2 hmi2 h6_2 h14_2 h18_2 ho_2
        refine r_lload C 4 dX0_reckon_26 rfl ?_
        refine r_aload_n C 0 dX0_reckon_28 rfl rfl ?_
        refine r_getR C (b := (f 1)) fl_X0_17 rfl (hb.k 0 4 rfl) (hb.r 0 1 1 rfl) dX0_reckon_29 ?_
        refine r_iload C 6 dX0_reckon_32 rfl ?_
        refine r_aaloadN C (b := (f (2 + q))) 5 (by decide) (hb.k 1 28 rfl) (hb.n 1 3 rfl) (by omega) (by omega) (hb.ro 1 2 3 1 rfl q (by omega)) dX0_reckon_34 ?_
        refine r_iload_n C 1 dX0_reckon_35 rfl rfl ?_
        refine r_laloadN C (hb.ko 2 21 3 rfl q (by omega)) (hb.no 2 24 3 rfl q (by omega)) (by omega) (by omega) dX0_reckon_36 ?_
        refine V.el (y := grL τ p m q) ((congrFun (hrk2.2.2.2.1 (2 + q) (by omega) (fun z => by obtain ⟨i, z1, z2⟩ := z; omega)) m).trans (hgr q (by omega))) ?_
        refine r_ladd C dX0_reckon_37 ?_
        refine r_lstore C (lo' := [(4, .long ((sumL (fun i => grL τ p m i) q) + (grL τ p m q))), (0, .ref (f 0)), (1, .int (nI m)), (2, .ref (h 0)), (3, .ref P), (6, .long (sumL (fun i => coL τ p m i) q)), (8, .int (nI q))]) dX0_reckon_38 (by decide) rfl ?_
        refine r_lload C 5 dX0_reckon_40 rfl ?_
        refine r_aload_n C 1 dX0_reckon_42 rfl rfl ?_
        refine r_getR C (b := (f 5)) fl_X0_20 rfl (hb.k 0 4 rfl) (hb.r 0 2 5 rfl) dX0_reckon_43 ?_
        refine r_iload C 6 dX0_reckon_46 rfl ?_
        refine r_aaloadN C (b := (f (6 + q))) 5 (by decide) (hb.k 5 28 rfl) (hb.n 5 3 rfl) (by omega) (by omega) (hb.ro 5 6 3 1 rfl q (by omega)) dX0_reckon_48 ?_
        refine r_iload_n C 2 dX0_reckon_49 rfl rfl ?_
        refine r_laloadN C (hb.ko 6 21 3 rfl q (by omega)) (hb.no 6 24 3 rfl q (by omega)) (by omega) (by omega) dX0_reckon_50 ?_
        refine V.el (y := coL τ p m q) ((hrk2.2.2.1 q (by omega)).1) ?_
        refine r_ladd C dX0_reckon_51 ?_
        refine r_lstore C (lo' := [(6, .long ((sumL (fun i => coL τ p m i) q) + (coL τ p m q))), (4, .long ((sumL (fun i => grL τ p m i) q) + (grL τ p m q))), (0, .ref (f 0)), (1, .int (nI m)), (2, .ref (h 0)), (3, .ref P), (8, .int (nI q))]) dX0_reckon_52 (by decide) rfl ?_
        refine r_iinc C (v := nI (q + 1)) (lo' := [(8, .int (nI (q + 1))), (6, .long ((sumL (fun i => coL τ p m i) q) + (coL τ p m q))), (4, .long ((sumL (fun i => grL τ p m i) q) + (grL τ p m q))), (0, .ref (f 0)), (1, .int (nI m)), (2, .ref (h 0)), (3, .ref P)]) 6 dX0_reckon_54 rfl (nI_addI q 1) (by decide) rfl ?_
        refine r_goto C (t := 9) dX0_reckon_57 (by decide) ?_
        have jb4 : ((sumL (fun i => grL τ p m i) q) + (grL τ p m q)) = (sumL (fun i => grL τ p m i) (q + 1)) := by rfl
        refine V.eLo (lo' := [(8, .int (nI (q + 1))), (6, .long ((sumL (fun i => coL τ p m i) q) + (coL τ p m q))), (4, .long (sumL (fun i => grL τ p m i) (q + 1))), (0, .ref (f 0)), (1, .int (nI m)), (2, .ref (h 0)), (3, .ref P)]) (congrArg (fun z_ => ([(8, .int (nI (q + 1))), (6, .long ((sumL (fun i => coL τ p m i) q) + (coL τ p m q))), (4, .long z_), (0, .ref (f 0)), (1, .int (nI m)), (2, .ref (h 0)), (3, .ref P)] : List (Nat × Value))) jb4) ?_
        have jb6 : ((sumL (fun i => coL τ p m i) q) + (coL τ p m q)) = (sumL (fun i => coL τ p m i) (q + 1)) := by rfl
        refine V.eLo (lo' := [(8, .int (nI (q + 1))), (6, .long (sumL (fun i => coL τ p m i) (q + 1))), (4, .long (sumL (fun i => grL τ p m i) (q + 1))), (0, .ref (f 0)), (1, .int (nI m)), (2, .ref (h 0)), (3, .ref P)]) (congrArg (fun z_ => ([(8, .int (nI (q + 1))), (6, .long z_), (4, .long (sumL (fun i => grL τ p m i) (q + 1))), (0, .ref (f 0)), (1, .int (nI m)), (2, .ref (h 0)), (3, .ref P)] : List (Nat × Value))) jb6) ?_
        refine V.sub [3, 4, 5, 6, 2, 1, 0] (lo' := [(0, .ref (f 0)), (1, .int (nI m)), (2, .ref (h 0)), (3, .ref P), (4, .long (sumL (fun i => grL τ p m i) (q + 1))), (6, .long (sumL (fun i => coL τ p m i) (q + 1))), (8, .int (nI (q + 1)))]) rfl ?_
        exact ih9 My2 (q + 1) (by omega) hrk2 (by omega)
  refine V.sub [3, 4, 5, 6, 2, 1, 0] (lo' := [(0, .ref (f 0)), (1, .int (nI m)), (2, .ref (h 0)), (3, .ref P), (4, .long (lN 0)), (6, .long (lN 0)), (8, .int (nI 0))]) rfl ?_
  exact lp9 _ M 0 (Nat.zero_le _) (⟨frm.rf _ _, rfl, fun i hi => absurd hi (Nat.not_lt_zero _), fun _ _ _ => rfl, fun _ _ _ _ => rfl⟩) (Nat.lt_succ_self _)

