/-! THE CLASS: what was told, in another memory -/
section Cgs
variable {τ U : Mu} {G : gW} {α : Nat → Nat} {M M1 M2 : Mem}
theorem WTc.cg {c : Nat} (h0 : ∀ k, k ≠ 11 → mI M1 (cO α c 0) k = mI M (cO α c 0) k) (e : ∀ o, 0 < o → o < 7 → mI M1 (cO α c o) = mI M (cO α c o)) (w : WTc τ α M c) : WTc τ α M1 c := by
  obtain ⟨b1, b2, sn, sk, b3, b4, b5⟩ := w
  refine ⟨b1.cg (fun k hk => h0 k (by omega)) (e 2 (by decide) (by decide)) (e 4 (by decide) (by decide)), ?_, sn, sk, b3, (h0 10 (by decide)).trans b4, ?_⟩
  · unfold StV
    rw [e 2 (by decide) (by decide), e 3 (by decide) (by decide)]
    exact b2
  · rw [e 5 (by decide) (by decide), e 6 (by decide) (by decide)]
    exact b5
theorem WTp.cg {r : Nat} (e : ∀ o, o < 15 → mI M1 (hO α r o) = mI M (hO α r o)) (el : ∀ o, o < 15 → mL M1 (hO α r o) = mL M (hO α r o)) (w : WTp τ α M r) : WTp τ α M1 r := by
  obtain ⟨b1, b2, b3, b4, b5, b6, b7⟩ := w
  unfold WTp StV
  rw [e 0 (by decide), e 5 (by decide), e 6 (by decide), e 8 (by decide), e 9 (by decide), el 14 (by decide), el 0 (by decide)]
  exact ⟨b1, b2, b3, fun q hq m hm => by rw [e (11 + q) (by omega)]; exact b4 q hq m hm, b5, b6, b7⟩
theorem WTq.cg {q : Nat} (e : ∀ o, o < 35 → mI M1 (gO α q o) = mI M (gO α q o)) (el : ∀ o, o < 35 → mL M1 (gO α q o) = mL M (gO α q o)) (w : WTq τ α M q) : WTq τ α M1 q := by
  obtain ⟨b1, b2, b3, b4⟩ := w
  refine ⟨?_, ?_, fun s hs => BrF.cg (b3 s hs) (fun o ho => e (11 + 12 * s + o) (by omega)), ?_⟩
  · unfold StV
    rw [e 2 (by decide), e 3 (by decide)]
    exact b1
  · unfold StV
    rw [e 5 (by decide), e 6 (by decide)]
    exact b2
  · rw [el 8 (by decide), el 9 (by decide), e 10 (by decide)]
    exact b4
theorem WTy.cg (el : ∀ k, k < un τ 17 17 → mI M1 (lO α k) 1 = mI M (lO α k) 1) (eg : ∀ g, g < un τ 44 44 → mI M1 (aO α g 0) = mI M (aO α g 0)) (ey : ∀ k, k < un τ 51 51 → mI M1 (yO α k) = mI M (yO α k) ∧ mL M1 (yO α k) = mL M (yO α k)) (w : WTy τ α M) : WTy τ α M1 := by
  obtain ⟨b1, b2, b3⟩ := w
  refine ⟨fun k hk => (el k hk).trans (b1 k hk), fun g hg => ?_, fun k hk => ?_⟩
  · unfold GaF
    rw [eg g hg]
    exact b2 g hg
  · rw [(ey k hk).1, (ey k hk).2]
    exact b3 k hk
theorem ElF.cgs {i i' : Nat → Nat → Int32} {f : Nat → Nat} (h : ElF τ i f) (e : ∀ o, o < 21 → i' (f o) = i (f o)) : ElF τ i' f := by
  obtain ⟨a0, a1, a2, a3, a4, a5, a6, a7⟩ := h
  refine ⟨by rw [e 0 (by decide)]; exact a0, by rw [e 0 (by decide)]; exact a1, fun x hx k hk => by rw [e (2 + x) (by omega)]; exact a2 x hx k hk, fun x hx k hk => by rw [e (10 + x) (by omega)]; exact a3 x hx k hk, ?_, ?_, ?_, ?_⟩
  · rw [e 17 (by decide)]; exact a4
  · rw [e 18 (by decide)]; exact a5
  · rw [e 19 (by decide)]; exact a6
  · rw [e 20 (by decide)]; exact a7
theorem fmD_u {e : Nat} (h : U.1 22 = τ.1 22) : ∀ n, fmD U e n = fmD τ e n
  | 0 => rfl
  | n + 1 => by
    show (if un U 22 (10 * e + n) < 4 then fmD U e n + 1 else fmD U e n - 1) = (if un τ 22 (10 * e + n) < 4 then fmD τ e n + 1 else fmD τ e n - 1)
    rw [un_e h, fmD_u h n]
theorem ndK_u {e : Nat} (h : U.1 22 = τ.1 22) (h2 : U.1 23 = τ.1 23) : ∀ n, needK U e n = needK τ e n
  | 0 => rfl
  | n + 1 => by
    show (needK U e n ||| (if un U 22 (10 * e + n) = 2 then 2 ^ un U 23 (10 * e + n) else 0)) = (needK τ e n ||| (if un τ 22 (10 * e + n) = 2 then 2 ^ un τ 23 (10 * e + n) else 0))
    rw [un_e h, un_e h2, ndK_u h h2 n]
theorem ElF.u {i : Nat → Nat → Int32} {f : Nat → Nat} (h22 : U.1 22 = τ.1 22) (h23 : U.1 23 = τ.1 23) (h24 : U.1 24 = τ.1 24) (h25 : U.1 25 = τ.1 25) (h26 : U.1 26 = τ.1 26) (h27 : U.1 27 = τ.1 27) (g : ElF τ i f) : ElF U i f := by
  unfold ElF needN
  simp only [fmD_u h22, ndK_u h22 h23, un_e h24, un_e h25, un_e h26, un_e h27, h22, h23]
  exact g
/-- all that is told stays under a change of other cells -/
theorem WT.fr {A : Nat → Prop} (f : frm A M M1) (hA : ∀ k, LV τ k → k ≠ 25 → k ≠ 26 → (∀ p, p < 6 → ¬ (44 + 57 * p ≤ k ∧ k < 86 + 57 * p)) → ¬ A (α k)) (w : WT τ α M) (hw : WF τ) : WT τ α M1 := by
  have h9 := hw.nc.2
  have h44 := hw.ng.2
  have i : ∀ k, LV τ k → k ≠ 25 → k ≠ 26 → (∀ p, p < 6 → ¬ (44 + 57 * p ≤ k ∧ k < 86 + 57 * p)) → mI M1 (α k) = mI M (α k) ∧ mL M1 (α k) = mL M (α k) := fun k a b c d => ⟨f.i (hA k a b c d), f.l (hA k a b c d)⟩
  obtain ⟨w1, w2, w3, w4, w5⟩ := w
  refine ⟨fun c hc => ?_, fun r hr => ?_, fun q hq => ?_, ?_, ?_⟩
  · have e : ∀ o, o < 10 → mI M1 (cO α c o) = mI M (cO α c o) := fun o ho => (i _ (lv_c hc ho) (by omega) (by omega) (fun p hp => by omega)).1
    exact (w1 c hc).cg (fun k _ => congrFun (e 0 (by decide)) k) (fun o _ ho => e o (by omega))
  · have e : ∀ o, o < 15 → mI M1 (hO α r o) = mI M (hO α r o) ∧ mL M1 (hO α r o) = mL M (hO α r o) := fun o ho => i _ (lv_h hr (by omega)) (by omega) (by omega) (fun p hp => by omega)
    exact (w2 r hr).cg (fun o ho => (e o ho).1) (fun o ho => (e o ho).2)
  · have e : ∀ o, o < 35 → mI M1 (gO α q o) = mI M (gO α q o) ∧ mL M1 (gO α q o) = mL M (gO α q o) := fun o ho => i _ (lv_g hq ho) (by omega) (by omega) (fun p hp => by omega)
    exact (w3 q hq).cg (fun o ho => (e o ho).1) (fun o ho => (e o ho).2)
  · have e0 : mI M1 (α 0) = mI M (α 0) := (i 0 (lv_s (by decide)) (by decide) (by decide) (fun p hp => by omega)).1
    unfold WTx
    rw [e0]
    obtain ⟨b1, b2, b3, b4, b5, b6, b7⟩ := w4
    exact ⟨b1, b2, b3, b4, b5, b6, b7.cgs (fun o ho => (i (4 + o) (lv_s (by omega)) (by omega) (by omega) (fun p hp => by omega)).1)⟩
  · exact w5.cg (fun k hk => congrFun (i _ (lv_l hk) (by omega) (by omega) (fun p hp => by omega)).1 1) (fun g hg => (i _ (lv_a hg (by decide)) (by omega) (by omega) (fun p hp => by omega)).1) (fun k hk => i _ (lv_y hk) (by omega) (by omega) (fun p hp => by omega))
/-- all books are stale then -/
theorem stale_w (hw : WF U) (ws : WS U G α M1) (wt : WT U α M1) (wc : ∀ c, c < un U 9 9 → mI M1 (cO α c 0) 11 = 0 → CoW U c (mI M1) (mL M1) (cO α c)) (g : frm (StA α) M1 M2) (h1 : ∀ p, p < 6 → mI M2 (bO α p 0) 0 = 1) : WD U G α M2 := by
  have h9 := hw.nc.2
  have nc : ∀ c, c < un U 9 9 → ∀ o, o < 10 → ¬ StA α (cO α c o) := fun c hc o ho => StA.no ws.1 (lv_c hc ho) (fun p hp => by omega)
  refine ⟨ws.fr g (fun k hk => StA.lc ws.1 hk), wt.fr g (fun k hk _ _ hn => StA.no ws.1 hk (fun p hp e => hn p hp (by omega))) hw, fun c hc hz => ?_, fun p hp hz => ?_⟩
  · exact (wc c hc (by rw [← g.i (nc c hc 0 (by decide))]; exact hz)).fr g (nc c hc 7 (by decide)) (nc c hc 8 (by decide))
  · rw [h1 p hp] at hz
    exact absurd hz (by decide)
theorem CF.tr2 {A B : Nat → Prop} (f : frm A M M1) (g : frm B M1 M2) (hA : ∀ a, A a → ∃ k, LV τ k ∧ a = α k) (hB : ∀ a, B a → ∃ k, LV τ k ∧ a = α k) : CF τ α M M2 := by
  intro a _ _ h3
  have nA : ¬ A a := fun h => by obtain ⟨k, h1, h2⟩ := hA a h; exact h3 k h1 h2
  have nB : ¬ B a := fun h => by obtain ⟨k, h1, h2⟩ := hB a h; exact h3 k h1 h2
  exact ⟨(congrFun g.1 a).trans (congrFun f.1 a), (congrFun g.2.1 a).trans (congrFun f.2.1 a), (g.i nB).trans (f.i nA), (g.l nB).trans (f.l nA), (congrFun g.2.2.1 a).trans (congrFun f.2.2.1 a)⟩
theorem StA.lv {a : Nat} (h : StA α a) : ∃ k, LV τ k ∧ a = α k := by
  obtain ⟨p, hp, e⟩ := h
  exact ⟨_, lv_b hp (show 0 < 42 by decide), e⟩
/-- leaveRule -/
theorem lr_w {x y z : Int32} {m1 m2 m3 : Nat} (hx : x = nI m1) (hy : y = nI m2) (hz : z = nI m3) (hw : WF τ) (hwU : WF (sI (sI (sI τ 18 18 x) 19 19 y) 20 20 z)) (ws : WS τ G α M) (wt : WT τ α M) (wb : WB τ α M) (b1 : m1 < 2 ^ 31) (b2 : m2 < 2 ^ 31) (b3 : m3 < 2 ^ 31)
    (g : frm (StA α) (wI (wI (wI M (α 0) 8 x) (α 0) 9 y) (α 0) 10 z) M2) (h1 : ∀ p, p < 6 → mI M2 (bO α p 0) 0 = 1) : WD (sI (sI (sI τ 18 18 x) 19 19 y) 20 20 z) G α M2 := by
  have f : frm (fun a => a = α 0) M (wI (wI (wI M (α 0) 8 x) (α 0) 9 y) (α 0) 10 z) := (((frm.rf (fun a => a = α 0) M).wi _ _ rfl).wi _ _ rfl).wi _ _ rfl
  have n0 : ∀ k, LV τ k → k ≠ 0 → ¬ (α k = α 0) := fun k hk h e => h (ws.1 _ _ hk (lv_s (by decide)) e)
  have hU : ∀ k, k ≠ 18 → k ≠ 19 → k ≠ 20 → (sI (sI (sI τ 18 18 x) 19 19 y) 20 20 z).1 k = τ.1 k := fun k k1 k2 k3 => (up2_row _ _ k3).trans ((up2_row _ _ k2).trans (up2_row _ _ k1))
  generalize hUe : sI (sI (sI τ 18 18 x) 19 19 y) 20 20 z = U at hU hwU ⊢
  have hU2 : U.2 = τ.2 := by rw [← hUe]; rfl
  have v18 : un U 18 18 = m1 := by unfold un; rw [← hUe]; show (up2 (up2 (up2 τ.1 18 18 x) 19 19 y) 20 20 z 18 18).toNatClampNeg = m1; rw [up2_row _ _ (by decide), up2_row _ _ (by decide), up2_same, hx]; exact nI_clamp b1
  have v19 : un U 19 19 = m2 := by unfold un; rw [← hUe]; show (up2 (up2 (up2 τ.1 18 18 x) 19 19 y) 20 20 z 19 19).toNatClampNeg = m2; rw [up2_row _ _ (by decide), up2_same, hy]; exact nI_clamp b2
  have v20 : un U 20 20 = m3 := by unfold un; rw [← hUe]; show (up2 (up2 (up2 τ.1 18 18 x) 19 19 y) 20 20 z 20 20).toNatClampNeg = m3; rw [up2_same, hz]; exact nI_clamp b3
  have ws1 : WS U G α (wI (wI (wI M (α 0) 8 x) (α 0) 9 y) (α 0) 10 z) := (ws.fr f (fun k hk => n0 k (lc_bc (p := 0) hk).1 (by rcases hk with rfl | rfl | rfl | ⟨q, o, h1, h2, h3, rfl⟩ <;> omega))).u (hU 0 (by decide) (by decide) (by decide)) (hU 9 (by decide) (by decide) (by decide)) (hU 14 (by decide) (by decide) (by decide)) (hU 15 (by decide) (by decide) (by decide)) (hU 17 (by decide) (by decide) (by decide)) (hU 38 (by decide) (by decide) (by decide)) (hU 40 (by decide) (by decide) (by decide)) (hU 44 (by decide) (by decide) (by decide)) (hU 51 (by decide) (by decide) (by decide))
  have e9 : un U 9 9 = un τ 9 9 := congrFun (un_e (hU 9 (by decide) (by decide) (by decide))) 9
  have l2 : ∀ k, U.2 k = τ.2 k := fun k => by rw [hU2]
  obtain ⟨w1, w2, w3, w4, w5⟩ := wt
  have ei : ∀ k, LV τ k → k ≠ 0 → mI (wI (wI (wI M (α 0) 8 x) (α 0) 9 y) (α 0) 10 z) (α k) = mI M (α k) := fun k a b => f.i (n0 k a b)
  have wt1 : WT U α (wI (wI (wI M (α 0) 8 x) (α 0) 9 y) (α 0) 10 z) := by
    refine ⟨fun c hc => ?_, fun r hr => ?_, fun q hq => ?_, ?_, ?_⟩
    · rw [e9] at hc
      exact ((w1 c hc).cg (fun k _ => congrFun (ei _ (lv_c hc (show 0 < 10 by decide)) (by omega)) k) (fun o _ ho => ei _ (lv_c hc (show o < 10 by omega)) (by omega))).u (fun k hk => hU k (by omega) (by omega) (by omega))
    · exact ((w2 r hr).cg (fun o ho => ei _ (lv_h hr (show o < 57 by omega)) (by omega)) (fun o ho => rfl)).u (hU 30 (by decide) (by decide) (by decide)) (hU 36 (by decide) (by decide) (by decide)) (hU 37 (by decide) (by decide) (by decide)) (hU 47 (by decide) (by decide) (by decide)) (hU 50 (by decide) (by decide) (by decide)) (hU 51 (by decide) (by decide) (by decide)) (l2 45) (l2 49)
    · exact ((w3 q hq).cg (fun o ho => ei _ (lv_g hq ho) (by omega)) (fun o ho => rfl)).u (hU 31 (by decide) (by decide) (by decide)) (hU 32 (by decide) (by decide) (by decide)) (hU 33 (by decide) (by decide) (by decide)) (hU 34 (by decide) (by decide) (by decide)) (hU 35 (by decide) (by decide) (by decide)) (hU 54 (by decide) (by decide) (by decide)) (l2 52) (l2 53)
    · obtain ⟨b1, b2, b3, b4, b5, b6, b7⟩ := w4
      refine ⟨?_, ?_, ?_, ?_, ?_, ?_, ?_⟩
      · rw [un_e (hU 13 (by decide) (by decide) (by decide))]; exact (wI_k (by decide)).trans ((wI_k (by decide)).trans ((wI_k (by decide)).trans b1))
      · rw [un_e (hU 17 (by decide) (by decide) (by decide))]; exact (wI_k (by decide)).trans ((wI_k (by decide)).trans ((wI_k (by decide)).trans b2))
      · rw [v18, ← hx]; exact (wI_k (by decide)).trans ((wI_k (by decide)).trans wI_i)
      · rw [v19, ← hy]; exact (wI_k (by decide)).trans wI_i
      · rw [v20, ← hz]; exact wI_i
      · rw [un_e (hU 46 (by decide) (by decide) (by decide))]; exact (wI_k (by decide)).trans ((wI_k (by decide)).trans ((wI_k (by decide)).trans b6))
      · have hE : ElF τ (mI (wI (wI (wI M (α 0) 8 x) (α 0) 9 y) (α 0) 10 z)) (eO α) := b7.cgs (fun o ho => ei (4 + o) (lv_s (by omega)) (by omega))
        exact hE.u (hU 22 (by decide) (by decide) (by decide)) (hU 23 (by decide) (by decide) (by decide)) (hU 24 (by decide) (by decide) (by decide)) (hU 25 (by decide) (by decide) (by decide)) (hU 26 (by decide) (by decide) (by decide)) (hU 27 (by decide) (by decide) (by decide))
    · exact (w5.cg (fun k hk => congrFun (ei _ (lv_l hk) (by omega)) 1) (fun g hg => ei _ (lv_a hg (show 0 < 2 by decide)) (by omega)) (fun k hk => ⟨ei _ (lv_y hk) (by omega), rfl⟩)).u (hU 15 (by decide) (by decide) (by decide)) (hU 17 (by decide) (by decide) (by decide)) (fun k a b => hU k (by omega) (by omega) (by omega)) (hU 47 (by decide) (by decide) (by decide)) (hU 48 (by decide) (by decide) (by decide)) (hU 50 (by decide) (by decide) (by decide)) (hU 51 (by decide) (by decide) (by decide)) (l2 49)
  refine stale_w hwU ws1 wt1 (fun c hc hz => ?_) g h1
  rw [e9] at hc
  have hn : ∀ o, o < 10 → ¬ (cO α c o = α 0) := fun o ho => n0 _ (lv_c hc ho) (by omega)
  exact ((wb.1 c hc (by rw [← f.i (hn 0 (by decide))]; exact hz)).fr f (hn 7 (by decide)) (hn 8 (by decide))).u (fun k hk => hU k (by omega) (by omega) (by omega))
end Cgs
