/-! THE CLASS: the world's frames -/
theorem INJ.ne {τ : Mu} {α : Nat → Nat} (h : INJ τ α) {i j : Nat} (hi : LV τ i) (hj : LV τ j) (e : i ≠ j) : α i ≠ α j := fun z => e (h i j hi hj z)
theorem PW.fr {τ : Mu} {p : Nat} {G : gW} {α : Nat → Nat} {A : Nat → Prop} {M M' : Mem} (h : PW τ p G α M) (f : frm A M M') (hp : p < 6) (hA : ∀ k, LC k → ¬ A (α k)) : PW τ p G α M' := by
  obtain ⟨nc, cn, nl, ln, ng, gn, h1, h2, h3, h4, h5, h6⟩ := h
  exact ⟨nc, cn, nl, ln, ng, gn, h1, h2, h3, h4.fr f (hA (29 + 57 * p + 1) (.inr (.inr (.inr ⟨p, 1, hp, by decide, by decide, rfl⟩)))), h5.fr f (hA (29 + 57 * p + 2) (.inr (.inr (.inr ⟨p, 2, hp, by decide, by decide, rfl⟩)))), h6.fr f (hA (29 + 57 * p + 3) (.inr (.inr (.inr ⟨p, 3, hp, by decide, by decide, rfl⟩))))⟩
theorem WS.fr {τ : Mu} {G : gW} {α : Nat → Nat} {A : Nat → Prop} {M M' : Mem} (h : WS τ G α M) (f : frm A M M') (hA : ∀ k, LC k → ¬ A (α k)) : WS τ G α M' := by
  obtain ⟨a1, a2, a3, a4, a5, a6, a7, a8, a9, a10, a11, a12, a13⟩ := h
  refine ⟨a1, f.blk a2, fun p hp => ⟨f.blk (a3 p hp).1, by rw [f.2.2.1]; exact (a3 p hp).2⟩, fun q hq => ⟨f.blk (a4 q hq).1, by rw [f.2.2.1]; exact (a4 q hq).2⟩, fun c hc => f.blk (a5 c hc), fun g hg => f.blk (a6 g hg), fun k hk => ⟨by rw [f.1]; exact (a7 k hk).1, by rw [f.2.2.1]; exact (a7 k hk).2⟩, fun k hk => by rw [f.1]; exact a8 k hk,
    a9.fr f (hA 1 (.inl rfl)), a10.fr f (hA 27 (.inr (.inl rfl))), a11.fr f (hA 28 (.inr (.inr (.inl rfl)))), fun p hp => (a12 p hp).fr f hp hA, by rw [f.2.2.1]; exact a13⟩
theorem lc_bc {τ : Mu} {p k : Nat} (h : LC k) : LV τ k ∧ ¬ BC τ p k := by
  rcases h with rfl | rfl | rfl | ⟨q, o, h1, h2, h3, rfl⟩
  · exact ⟨lv_s (by decide), nbc_s (by decide) (by decide) (by decide) (by omega)⟩
  · exact ⟨lv_s (by decide), nbc_s (by decide) (by decide) (by decide) (by omega)⟩
  · exact ⟨lv_s (by decide), nbc_s (by decide) (by decide) (by decide) (by omega)⟩
  · exact ⟨lv_s (by omega), nbc_s (by omega) (by omega) (by omega) (by omega)⟩
section BXs
variable {τ : Mu} {G : gW} {α : Nat → Nat} {p : Nat} {M M1 M2 : Mem}
theorem BX.ws (h : BX τ α p M M1) (hp : p < 6) (w : WS τ G α M) : WS τ G α M1 := w.fr h.1 fun _ hk => BoA.no w.1 hp (lc_bc (p := p) hk).1 (lc_bc (p := p) hk).2
theorem BX.i (h : BX τ α p M M1) (hi : INJ τ α) (hp : p < 6) {k : Nat} (hk : LV τ k) (hb : ¬ BC τ p k) : mI M1 (α k) = mI M (α k) := h.1.i (BoA.no hi hp hk hb)
theorem BX.l (h : BX τ α p M M1) (hi : INJ τ α) (hp : p < 6) {k : Nat} (hk : LV τ k) (hb : ¬ BC τ p k) : mL M1 (α k) = mL M (α k) := h.1.l (BoA.no hi hp hk hb)
theorem BX.wt (h : BX τ α p M M1) (hw : WF τ) (hi : INJ τ α) (hp : p < 6) (w : WT τ α M) : WT τ α M1 := by
  obtain ⟨w1, w2, w3, w4, w5⟩ := w
  refine ⟨fun c hc => ?_, fun r hr => ?_, fun q hq => ?_, ?_, ?_⟩
  · obtain ⟨b1, b2, sn, sk, b3, b4, b5⟩ := w1 c hc
    have e : ∀ o, 0 < o → o < 7 → mI M1 (cO α c o) = mI M (cO α c o) := fun o h0 h7 => h.i hi hp (lv_c hc (by omega)) (nbc_c hw hp hc (by omega) (.inr (by omega)))
    refine ⟨b1.cg (fun k hk => h.2.1 c hc k (by omega)) (e 2 (by decide) (by decide)) (e 4 (by decide) (by decide)), ?_, sn, sk, b3, (h.2.1 c hc 10 (by decide)).trans b4, ?_⟩
    · unfold StV
      rw [e 2 (by decide) (by decide), e 3 (by decide) (by decide)]
      exact b2
    · rw [e 5 (by decide) (by decide), e 6 (by decide) (by decide)]
      exact b5
  · have e : ∀ o, o < 15 → mI M1 (hO α r o) = mI M (hO α r o) := fun o ho => h.i hi hp (lv_h hr (by omega)) (nbc_s (by omega) (by omega) (by omega) (by omega))
    have el : ∀ o, o < 15 → mL M1 (hO α r o) = mL M (hO α r o) := fun o ho => h.l hi hp (lv_h hr (by omega)) (nbc_s (by omega) (by omega) (by omega) (by omega))
    obtain ⟨b1, b2, b3, b4, b5, b6, b7⟩ := w2 r hr
    unfold WTp StV
    rw [e 0 (by decide), e 5 (by decide), e 6 (by decide), e 8 (by decide), e 9 (by decide), el 14 (by decide), el 0 (by decide)]
    exact ⟨b1, b2, b3, fun q hq m hm => by rw [e (11 + q) (by omega)]; exact b4 q hq m hm, b5, b6, b7⟩
  · have e : ∀ o, o < 35 → mI M1 (gO α q o) = mI M (gO α q o) := fun o ho => h.i hi hp (lv_g hq (by omega)) (nbc_s (by omega) (by omega) (by omega) (by omega))
    have el : ∀ o, o < 35 → mL M1 (gO α q o) = mL M (gO α q o) := fun o ho => h.l hi hp (lv_g hq (by omega)) (nbc_s (by omega) (by omega) (by omega) (by omega))
    obtain ⟨b1, b2, b3, b4⟩ := w3 q hq
    refine ⟨?_, ?_, fun s hs => ?_, ?_⟩
    · unfold StV
      rw [e 2 (by decide), e 3 (by decide)]
      exact b1
    · unfold StV
      rw [e 5 (by decide), e 6 (by decide)]
      exact b2
    · exact BrF.cg (b3 s hs) (fun o ho => e (11 + 12 * s + o) (by omega))
    · rw [el 8 (by decide), el 9 (by decide), e 10 (by decide)]
      exact b4
  · have e0 : mI M1 (α 0) = mI M (α 0) := h.i hi hp (lv_s (by decide)) (nbc_s (by decide) (by decide) (by decide) (by omega))
    unfold WTx
    rw [e0]
    obtain ⟨b1, b2, b3, b4, b5, b6, b7⟩ := w4
    exact ⟨b1, b2, b3, b4, b5, b6, b7.fr h.1 (fun o ho => BoA.no hi hp (lv_s (show 4 + o < 476 by omega)) (nbc_s (by omega) (by omega) (by omega) (by omega)))⟩
  · obtain ⟨b1, b2, b3⟩ := w5
    refine ⟨fun k hk => (h.2.2 k hk 1 (by decide)).trans (b1 k hk), fun g hg => ?_, fun k hk => ?_⟩
    · have e : mI M1 (aO α g 0) = mI M (aO α g 0) := h.i hi hp (lv_a hg (by decide)) (nbc_a hw hp hg (by decide) (.inr rfl))
      unfold GaF
      rw [e]
      exact b2 g hg
    · have e : mI M1 (yO α k) = mI M (yO α k) := h.i hi hp (lv_y hk) (nbc_y hw hp)
      have el : mL M1 (yO α k) = mL M (yO α k) := h.l hi hp (lv_y hk) (nbc_y hw hp)
      rw [e, el]
      exact b3 k hk
theorem BkR.cg {j j' : Nat → Nat → Int64} {f : Nat → Nat} {k : Nat} (h : BkR τ p j f k) (e : ∀ o, 2 ≤ o → o < 40 → j' (f o) k = j (f o) k) : BkR τ p j' f k := by
  obtain ⟨h1, h2, h3, h4⟩ := h
  refine ⟨fun q hq => ?_, (e 37 (by decide) (by decide)).trans h2, (e 38 (by decide) (by decide)).trans h3, (e 39 (by decide) (by decide)).trans h4⟩
  rw [e (2 + q) (by omega) (by omega), e (6 + q) (by omega) (by omega), e (10 + q) (by omega) (by omega), e (14 + q) (by omega) (by omega), e (18 + q) (by omega) (by omega), e (22 + q) (by omega) (by omega), e (26 + q) (by omega) (by omega)]
  exact h1 q hq
theorem BF.bx (h : BX τ α p M M1) (hw : WF τ) (hi : INJ τ α) (hp : p < 6) {r : Nat} (hr : r < 6) (hn : r ≠ p) (w : BF τ r α M) : BF τ r α M1 := by
  obtain ⟨w1, w2, w3, w4⟩ := w
  have e : ∀ o, o < 42 → mI M1 (bO α r o) = mI M (bO α r o) := fun o ho => h.i hi hp (lv_b hr ho) (nbc_s (by omega) (by omega) (by omega) (by omega))
  have el : ∀ o, o < 42 → mL M1 (bO α r o) = mL M (bO α r o) := fun o ho => h.l hi hp (lv_b hr ho) (nbc_s (by omega) (by omega) (by omega) (by omega))
  refine ⟨fun m hm => ?_, fun g hg hq => ?_, fun c hc hq => ?_, fun k hk hq => ?_⟩
  · obtain ⟨b1, b2, b3, b4, b5⟩ := w1 m hm
    refine ⟨b1.cg (fun o _ ho => by rw [el o (by omega)]), by rw [e 36 (by decide)]; exact b2, fun x hx => by rw [el (30 + x) (by omega)]; exact b3 x hx, by rw [el 40 (by decide)]; exact b4, by rw [el 41 (by decide)]; exact b5⟩
  · rw [show mL M1 (aO α g 1) = mL M (aO α g 1) from h.l hi hp (lv_a hg (by decide)) (nbc_a hw hp hg (by decide) (.inl (by omega)))]
    exact w2 g hg hq
  · have ec : ∀ o, o < 10 → mI M1 (cO α c o) = mI M (cO α c o) ∧ mL M1 (cO α c o) = mL M (cO α c o) := fun o ho => ⟨h.i hi hp (lv_c hc ho) (nbc_c hw hp hc ho (.inl (by omega))), h.l hi hp (lv_c hc ho) (nbc_c hw hp hc ho (.inl (by omega)))⟩
    refine ⟨fun m hm => ?_, fun x hx => ?_⟩
    · rw [(ec 7 (by decide)).2, (ec 8 (by decide)).1]
      exact (w3 c hc hq).1 m hm
    · rw [(ec 9 (by decide)).2]
      exact (w3 c hc hq).2 x hx
  · rw [show mI M1 (lO α k) = mI M (lO α k) from h.i hi hp (lv_l hk) (nbc_l hw hp hk (by omega))]
    exact w4 k hk hq
theorem WB.bx (h : BX τ α p M M1) (hw : WF τ) (hi : INJ τ α) (hp : p < 6) (w : WB τ α M) (hf : BF τ p α M1) : WB τ α M1 := by
  refine ⟨fun c hc hz => ?_, fun r hr hz => ?_⟩
  · by_cases q : un τ 0 c = p
    · exact (hf.2.2.1 c hc q).1
    · have ec : ∀ o, o < 10 → mI M1 (cO α c o) = mI M (cO α c o) ∧ mL M1 (cO α c o) = mL M (cO α c o) := fun o ho => ⟨h.i hi hp (lv_c hc ho) (nbc_c hw hp hc ho (.inl q)), h.l hi hp (lv_c hc ho) (nbc_c hw hp hc ho (.inl q))⟩
      intro m hm
      rw [(ec 7 (by decide)).2, (ec 8 (by decide)).1]
      exact w.1 c hc (by rw [← (ec 0 (by decide)).1]; exact hz) m hm
  · by_cases q : r = p
    · subst q; exact hf
    · refine BF.bx h hw hi hp hr q (w.2 r hr ?_)
      rw [← show mI M1 (bO α r 0) = mI M (bO α r 0) from h.i hi hp (lv_b hr (by decide)) (nbc_s (by omega) (by omega) (by omega) (by omega))]
      exact hz
/-- what gather, reckon and share may change -/
def BA (τ : Mu) (α : Nat → Nat) (p a : Nat) : Prop := ∃ k, (k = 25 ∨ k = 26 ∨ (44 + 57 * p ≤ k ∧ k < 86 + 57 * p) ∨ ∃ g, g < un τ 44 44 ∧ un τ 38 g = p ∧ k = 1100 + 2 * g + 1) ∧ a = α k
theorem BA.lv {k : Nat} (hp : p < 6) (h : k = 25 ∨ k = 26 ∨ (44 + 57 * p ≤ k ∧ k < 86 + 57 * p) ∨ ∃ g, g < un τ 44 44 ∧ un τ 38 g = p ∧ k = 1100 + 2 * g + 1) : LV τ k := by
  rcases h with h | h | h | ⟨g, h1, _, rfl⟩
  · exact lv_s (by omega)
  · exact lv_s (by omega)
  · exact lv_s (by omega)
  · exact lv_a h1 (by decide)
theorem BA.no (hw : WF τ) (hi : INJ τ α) (hp : p < 6) {k : Nat} (hk : LV τ k) (h : (1000 ≤ k ∧ k < 1100) ∨ 1200 ≤ k ∨ (k < 476 ∧ k ≠ 25 ∧ k ≠ 26 ∧ ¬ (44 + 57 * p ≤ k ∧ k < 86 + 57 * p))) : ¬ BA τ α p (α k) := by
  have h44 := hw.ng.2
  rintro ⟨j, hj, e⟩
  have e2 := hi k j hk (BA.lv hp hj) e
  subst e2
  rcases hj with z | z | z | ⟨g, _, _, z⟩ <;> omega
theorem BX.ba (h : BX τ α p M M1) (hw : WF τ) (hi : INJ τ α) (hp : p < 6) (g : frm (BA τ α p) M1 M2) : BX τ α p M M2 := by
  have h9 := hw.nc.2
  refine ⟨h.1.tr (g.mono fun a => ?_), fun c hc k hk => ?_, fun l hl k hk => ?_⟩
  · rintro ⟨k, z | z | z | ⟨x, z1, z2, z3⟩, e⟩
    · exact ⟨k, .inl z, e⟩
    · exact ⟨k, .inr (.inl z), e⟩
    · exact ⟨k, .inr (.inr (.inl z)), e⟩
    · exact ⟨k, .inr (.inr (.inr (.inr (.inl ⟨x, z1, z2, z3⟩)))), e⟩
  · exact (congrFun (g.i (BA.no hw hi hp (lv_c hc (show 0 < 10 by decide)) (.inl (by omega)))) k).trans (h.2.1 c hc k hk)
  · exact (congrFun (g.i (BA.no hw hi hp (lv_l hl) (.inr (.inl (by omega))))) k).trans (h.2.2 l hl k hk)
/-- contracts and leaves of p are fresh -/
def CLf (τ : Mu) (p : Nat) (α : Nat → Nat) (M : Mem) : Prop := (∀ c, c < un τ 9 9 → un τ 0 c = p → CoW τ c (mI M) (mL M) (cO α c) ∧ ∀ x, x < 24 → mL M (cO α c 9) x = lN (sumN (leaveP τ (ltN τ) c x) 0 (un τ 17 17))) ∧ ∀ k, k < un τ 17 17 → un τ 0 (un τ 14 k) = p → mI M (lO α k) 2 = nI (ltN τ k)
theorem CLf.ba (h : CLf τ p α M1) (hw : WF τ) (hi : INJ τ α) (hp : p < 6) (g : frm (BA τ α p) M1 M2) : CLf τ p α M2 := by
  have h9 := hw.nc.2
  refine ⟨fun c hc hq => ?_, fun k hk hq => ?_⟩
  · have n : ∀ o, o < 10 → ¬ BA τ α p (cO α c o) := fun o ho => BA.no hw hi hp (lv_c hc ho) (.inl (by omega))
    refine ⟨(h.1 c hc hq).1.fr g (n 7 (by decide)) (n 8 (by decide)), fun x hx => ?_⟩
    exact (congrFun (g.l (n 9 (by decide))) x).trans ((h.1 c hc hq).2 x hx)
  · exact (congrFun (g.i (BA.no hw hi hp (lv_l hk) (.inr (.inl (by omega))))) 2).trans (h.2 k hk hq)
end BXs
