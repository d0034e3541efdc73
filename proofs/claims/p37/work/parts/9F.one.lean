/-! one book is stale -/
theorem stale_1 {U : Mu} {G : gW} {α : Nat → Nat} {M1 : Mem} {p : Nat} (hw : WF U) (hp : p < 6) (ws : WS U G α M1) (wt : WT U α M1) (wc : ∀ c, c < un U 9 9 → mI M1 (cO α c 0) 11 = 0 → CoW U c (mI M1) (mL M1) (cO α c)) (wk : ∀ r, r < 6 → r ≠ p → mI M1 (bO α r 0) 0 = 0 → BF U r α M1) : WD U G α (wI M1 (bO α p 0) 0 (nI 1)) := by
  have h9 := hw.nc.2
  have f : frm (BA U α p) M1 (wI M1 (bO α p 0) 0 (nI 1)) := (frm.rf (BA U α p) M1).wi 0 (nI 1) BA.b0
  have x : BX U α p M1 (wI M1 (bO α p 0) 0 (nI 1)) := BX.ba BX.rf hw ws.1 hp f
  refine ⟨x.ws hp ws, x.wt hw ws.1 hp wt, fun c hc hz => ?_, fun r hr hz => ?_⟩
  · have n : ∀ o, o < 10 → ¬ BA U α p (cO α c o) := fun o ho => BA.no hw ws.1 hp (lv_c hc ho) (.inl (by omega))
    exact (wc c hc (by rw [← f.i (n 0 (by decide))]; exact hz)).fr f (n 7 (by decide)) (n 8 (by decide))
  · by_cases q : r = p
    · subst q
      rw [wI_i] at hz
      exact absurd hz (by decide)
    · refine BF.bx x hw ws.1 hp hr q (wk r hr q ?_)
      rw [← show mI (wI M1 (bO α p 0) 0 (nI 1)) (bO α r 0) = mI M1 (bO α r 0) from wI_a (ws.1.ne (lv_b hr (by decide)) (lv_b hp (by decide)) (by omega))]
      exact hz
/-- a person's own told cells -/
def PtA (α : Nat → Nat) (p a : Nat) : Prop := ∃ o, 4 ≤ o ∧ o < 15 ∧ a = hO α p o
theorem PtA.lv {τ : Mu} {α : Nat → Nat} {p a : Nat} (hp : p < 6) (h : PtA α p a) : ∃ k, LV τ k ∧ a = α k := by
  obtain ⟨o, h1, h2, e⟩ := h
  exact ⟨_, lv_h hp (show o < 57 by omega), e⟩
theorem PtA.no {τ : Mu} {α : Nat → Nat} {p k : Nat} (hi : INJ τ α) (hp : p < 6) (hk : LV τ k) (h : ¬ (33 + 57 * p ≤ k ∧ k < 44 + 57 * p)) : ¬ PtA α p (α k) := by
  rintro ⟨o, h1, h2, e⟩
  have := hi _ _ hk (lv_h hp (show o < 57 by omega)) e
  omega
theorem PtA.lc {τ : Mu} {α : Nat → Nat} {p k : Nat} (hi : INJ τ α) (hp : p < 6) (hk : LC k) : ¬ PtA α p (α k) := PtA.no hi hp (lc_bc (p := 0) hk).1 (by
  rcases hk with rfl | rfl | rfl | ⟨q, o, h1, h2, h3, rfl⟩
  · omega
  · omega
  · omega
  · rcases Nat.lt_trichotomy q p with z | z | z <;> omega)
/-- what was told of one person by months has changed, no more -/
theorem pt_w {τ U : Mu} {G : gW} {α : Nat → Nat} {M M1 : Mem} {p : Nat} (hp : p < 6) (hw : WF τ) (hwU : WF U) (hU : ∀ k, k ≠ 30 → k ≠ 36 → k ≠ 37 → U.1 k = τ.1 k) (l49 : U.2 49 = τ.2 49) (l52 : U.2 52 = τ.2 52) (l53 : U.2 53 = τ.2 53)
    (hv : ∀ r, r < 6 → r ≠ p → VW r τ U) (ws : WS τ G α M) (wt : WT τ α M) (wb : WB τ α M) (f : frm (PtA α p) M M1) (h0 : mI M1 (hO α p 0) 0 = nI p) (hP : WTp U α M1 p) : WD U G α (wI M1 (bO α p 0) 0 (nI 1)) := by
  have h9 := hw.nc.2
  have n : ∀ k, LV τ k → ¬ (33 + 57 * p ≤ k ∧ k < 44 + 57 * p) → ¬ PtA α p (α k) := fun k hk h => PtA.no ws.1 hp hk h
  have ei : ∀ k, LV τ k → ¬ (33 + 57 * p ≤ k ∧ k < 44 + 57 * p) → mI M1 (α k) = mI M (α k) := fun k hk h => f.i (n k hk h)
  have el : ∀ k, LV τ k → ¬ (33 + 57 * p ≤ k ∧ k < 44 + 57 * p) → mL M1 (α k) = mL M (α k) := fun k hk h => f.l (n k hk h)
  have u := fun k (h1 : k ≠ 30) (h2 : k ≠ 36) (h3 : k ≠ 37) => hU k h1 h2 h3
  have e9 : un U 9 9 = un τ 9 9 := congrFun (un_e (hU 9 (by decide) (by decide) (by decide))) 9
  have ws1 : WS U G α M1 := (ws.fr f (fun k hk => PtA.lc ws.1 hp hk)).u (hU 0 (by decide) (by decide) (by decide)) (hU 9 (by decide) (by decide) (by decide)) (hU 14 (by decide) (by decide) (by decide)) (hU 15 (by decide) (by decide) (by decide)) (hU 17 (by decide) (by decide) (by decide)) (hU 38 (by decide) (by decide) (by decide)) (hU 40 (by decide) (by decide) (by decide)) (hU 44 (by decide) (by decide) (by decide)) (hU 51 (by decide) (by decide) (by decide))
  obtain ⟨w1, w2, w3, w4, w5⟩ := wt
  have wt1 : WT U α M1 := by
    refine ⟨fun c hc => ?_, fun r hr => ?_, fun q hq => ?_, ?_, ?_⟩
    · rw [e9] at hc
      exact ((w1 c hc).cg (fun k _ => congrFun (ei _ (lv_c hc (show 0 < 10 by decide)) (by omega)) k) (fun o _ ho => ei _ (lv_c hc (show o < 10 by omega)) (by omega))).u (fun k hk => hU k (by omega) (by omega) (by omega))
    · by_cases q : r = p
      · subst q; exact hP
      · have eo : ∀ o, o < 15 → mI M1 (hO α r o) = mI M (hO α r o) ∧ mL M1 (hO α r o) = mL M (hO α r o) := fun o ho => ⟨ei _ (lv_h hr (show o < 57 by omega)) (by rcases Nat.lt_trichotomy r p with z | z | z <;> omega), el _ (lv_h hr (show o < 57 by omega)) (by rcases Nat.lt_trichotomy r p with z | z | z <;> omega)⟩
        have v := hv r hr q
        obtain ⟨b1, b2, b3, b4, b5, b6, b7⟩ := (w2 r hr).cg (fun o ho => (eo o ho).1) (fun o ho => (eo o ho).2)
        have sv : ∀ {V W : Nat → Option Int32} {x y : Nat}, (∀ m, m < 24 → V m = W m) → StV V (mI M1) x y 24 → StV W (mI M1) x y 24 := fun {V W x y} hvv s m hm => by
          rw [← hvv m hm, ← lsV_cg (n := m + 1) (fun k hk => hvv k (by omega))]
          exact s m hm
        refine ⟨b1, sv (fun m hm => by unfold stV; rw [v.2.2.2.2.1 m hm]) b2, sv (fun m hm => by unfold ptV; rw [v.2.2.2.2.2.1 m hm]) b3, fun q hq m hm => (b4 q hq m hm).trans (v.2.2.2.1 m q hm hq).symm, fun k hk => (b5 k hk).trans (v.2.2.2.2.2.2 k hk).symm, b6.trans (sumL_cg fun k hk => (v.2.2.2.2.2.2 k hk).symm), ?_⟩
        rw [b7, un_e (hU 47 (by decide) (by decide) (by decide)), un_e (hU 50 (by decide) (by decide) (by decide)), un_e (hU 51 (by decide) (by decide) (by decide)), l49]
    · exact ((w3 q hq).cg (fun o ho => ei _ (lv_g hq ho) (by omega)) (fun o ho => el _ (lv_g hq ho) (by omega))).u (hU 31 (by decide) (by decide) (by decide)) (hU 32 (by decide) (by decide) (by decide)) (hU 33 (by decide) (by decide) (by decide)) (hU 34 (by decide) (by decide) (by decide)) (hU 35 (by decide) (by decide) (by decide)) (hU 54 (by decide) (by decide) (by decide)) l52 l53
    · obtain ⟨b1, b2, b3, b4, b5, b6, b7⟩ := w4
      have e0 : mI M1 (α 0) = mI M (α 0) := ei 0 (lv_s (by decide)) (by omega)
      unfold WTx
      rw [e0, un_e (hU 13 (by decide) (by decide) (by decide)), un_e (hU 17 (by decide) (by decide) (by decide)), un_e (hU 18 (by decide) (by decide) (by decide)), un_e (hU 19 (by decide) (by decide) (by decide)), un_e (hU 20 (by decide) (by decide) (by decide)), un_e (hU 46 (by decide) (by decide) (by decide))]
      exact ⟨b1, b2, b3, b4, b5, b6, (b7.cgs (fun o ho => ei (4 + o) (lv_s (by omega)) (by omega))).u (hU 22 (by decide) (by decide) (by decide)) (hU 23 (by decide) (by decide) (by decide)) (hU 24 (by decide) (by decide) (by decide)) (hU 25 (by decide) (by decide) (by decide)) (hU 26 (by decide) (by decide) (by decide)) (hU 27 (by decide) (by decide) (by decide))⟩
    · exact (w5.cg (fun k hk => congrFun (ei _ (lv_l hk) (by omega)) 1) (fun g hg => ei _ (lv_a hg (show 0 < 2 by decide)) (by omega)) (fun k hk => ⟨ei _ (lv_y hk) (by omega), el _ (lv_y hk) (by omega)⟩)).u (hU 15 (by decide) (by decide) (by decide)) (hU 17 (by decide) (by decide) (by decide)) (fun k a b => hU k (by omega) (by omega) (by omega)) (hU 47 (by decide) (by decide) (by decide)) (hU 48 (by decide) (by decide) (by decide)) (hU 50 (by decide) (by decide) (by decide)) (hU 51 (by decide) (by decide) (by decide)) l49
  refine stale_1 hwU hp ws1 wt1 (fun c hc hz => ?_) (fun r hr q hz => ?_)
  · rw [e9] at hc
    have hn : ∀ o, o < 10 → ¬ PtA α p (cO α c o) := fun o ho => n _ (lv_c hc ho) (by omega)
    exact ((wb.1 c hc (by rw [← f.i (hn 0 (by decide))]; exact hz)).fr f (hn 7 (by decide)) (hn 8 (by decide))).u (fun k hk => hU k (by omega) (by omega) (by omega))
  · have nb : ∀ o, o < 42 → ¬ PtA α p (bO α r o) := fun o ho => n _ (lv_b hr ho) (by rcases Nat.lt_trichotomy r p with z | z | z <;> omega)
    refine BF.vw (hv r hr q) ?_
    obtain ⟨g1, g2, g3, g4⟩ := wb.2 r hr (by rw [← f.i (nb 0 (by decide))]; exact hz)
    have h44 := hw.ng.2
    have h17 := hw.nl.2
    refine ⟨fun m hm => ?_, fun x hx y k hk => ?_, fun c hc y => ?_, fun k hk y => ?_⟩
    · obtain ⟨b1, b2, b3, b4, b5⟩ := g1 m hm
      refine ⟨b1.cg (fun o _ ho => by rw [f.l (nb o (by omega))]), by rw [f.i (nb 36 (by decide))]; exact b2, fun x hx => by rw [f.l (nb (30 + x) (by omega))]; exact b3 x hx, by rw [f.l (nb 40 (by decide))]; exact b4, by rw [f.l (nb 41 (by decide))]; exact b5⟩
    · rw [show mL M1 (aO α x 1) = mL M (aO α x 1) from el _ (lv_a hx (by decide)) (by omega)]
      exact g2 x hx y k hk
    · have hn : ∀ o, o < 10 → ¬ PtA α p (cO α c o) := fun o ho => n _ (lv_c hc ho) (by omega)
      exact ⟨(g3 c hc y).1.fr f (hn 7 (by decide)) (hn 8 (by decide)), fun x hx => by rw [f.l (hn 9 (by decide))]; exact (g3 c hc y).2 x hx⟩
    · rw [show mI M1 (lO α k) = mI M (lO α k) from ei _ (lv_l hk) (by omega)]
      exact g4 k hk y

