/-! THE CLASS: element -/
def EtA (α : Nat → Nat) (a : Nat) : Prop := ∃ o, o < 21 ∧ a = eO α o
theorem EtA.lv {τ : Mu} {α : Nat → Nat} {a : Nat} (h : EtA α a) : ∃ k, LV τ k ∧ a = α k := by
  obtain ⟨o, h1, e⟩ := h
  exact ⟨_, lv_s (show 4 + o < 476 by omega), e⟩
theorem EtA.no {τ : Mu} {α : Nat → Nat} {k : Nat} (hi : INJ τ α) (hk : LV τ k) (h : ¬ (4 ≤ k ∧ k < 25)) : ¬ EtA α (α k) := by
  rintro ⟨o, h1, e⟩
  have := hi _ _ hk (lv_s (show 4 + o < 476 by omega)) e
  omega
theorem EtA.lc {τ : Mu} {α : Nat → Nat} {k : Nat} (hi : INJ τ α) (hk : LC k) : ¬ EtA α (α k) := EtA.no hi (lc_bc (p := 0) hk).1 (by rcases hk with rfl | rfl | rfl | ⟨q, o, h1, h2, h3, rfl⟩ <;> omega)
theorem elU_o {τ : Mu} {c d k : Nat} (h : k < 22 ∨ 27 < k) : (elU τ c d).1 k = τ.1 k := by
  funext i
  have e1 : (elU τ c d).1 k i = (elS τ c d).1 k i := arV_o _ (by omega)
  rw [e1]
  unfold elS
  refine (congrFun (up2_row _ _ (show k ≠ 26 by omega)) i).trans ((congrFun (up2_row _ _ (show k ≠ 25 by omega)) i).trans ((congrFun (up2_row _ _ (show k ≠ 24 by omega)) i).trans ((congrFun (up2_row _ _ (show k ≠ 24 by omega)) i).trans ?_)))
  exact if_neg (fun q => by omega)
/-- the elements have changed, no more -/
theorem el_w {τ U : Mu} {G : gW} {α : Nat → Nat} {M M1 : Mem} (hw : WF τ) (hU : ∀ k, k < 22 ∨ 27 < k → U.1 k = τ.1 k) (hU2 : U.2 = τ.2) (ws : WS τ G α M) (wt : WT τ α M) (f : frm (EtA α) M M1) (hE : ElF U (mI M1) (eO α)) : WS U G α M1 ∧ WT U α M1 := by
  have h9 := hw.nc.2
  have l2 : ∀ k, U.2 k = τ.2 k := fun k => by rw [hU2]
  have n : ∀ k, LV τ k → ¬ (4 ≤ k ∧ k < 25) → ¬ EtA α (α k) := fun k hk h => EtA.no ws.1 hk h
  have ei : ∀ k, LV τ k → ¬ (4 ≤ k ∧ k < 25) → mI M1 (α k) = mI M (α k) := fun k hk h => f.i (n k hk h)
  have el : ∀ k, LV τ k → ¬ (4 ≤ k ∧ k < 25) → mL M1 (α k) = mL M (α k) := fun k hk h => f.l (n k hk h)
  have e9 : un U 9 9 = un τ 9 9 := congrFun (un_e (hU 9 (by omega))) 9
  refine ⟨(ws.fr f (fun k hk => EtA.lc ws.1 hk)).u (hU 0 (by omega)) (hU 9 (by omega)) (hU 14 (by omega)) (hU 15 (by omega)) (hU 17 (by omega)) (hU 38 (by omega)) (hU 40 (by omega)) (hU 44 (by omega)) (hU 51 (by omega)), ?_⟩
  obtain ⟨w1, w2, w3, w4, w5⟩ := wt
  refine ⟨fun c hc => ?_, fun r hr => ?_, fun q hq => ?_, ?_, ?_⟩
  · rw [e9] at hc
    exact ((w1 c hc).cg (fun k _ => congrFun (ei _ (lv_c hc (show 0 < 10 by decide)) (by omega)) k) (fun o _ ho => ei _ (lv_c hc (show o < 10 by omega)) (by omega))).u (fun k hk => hU k (by omega))
  · exact ((w2 r hr).cg (fun o ho => ei _ (lv_h hr (show o < 57 by omega)) (by omega)) (fun o ho => el _ (lv_h hr (show o < 57 by omega)) (by omega))).u (hU 30 (by omega)) (hU 36 (by omega)) (hU 37 (by omega)) (hU 47 (by omega)) (hU 50 (by omega)) (hU 51 (by omega)) (l2 45) (l2 49)
  · exact ((w3 q hq).cg (fun o ho => ei _ (lv_g hq ho) (by omega)) (fun o ho => el _ (lv_g hq ho) (by omega))).u (hU 31 (by omega)) (hU 32 (by omega)) (hU 33 (by omega)) (hU 34 (by omega)) (hU 35 (by omega)) (hU 54 (by omega)) (l2 52) (l2 53)
  · obtain ⟨b1, b2, b3, b4, b5, b6, b7⟩ := w4
    have e0 : mI M1 (α 0) = mI M (α 0) := ei 0 (lv_s (by decide)) (by omega)
    unfold WTx
    rw [e0, un_e (hU 13 (by omega)), un_e (hU 17 (by omega)), un_e (hU 18 (by omega)), un_e (hU 19 (by omega)), un_e (hU 20 (by omega)), un_e (hU 46 (by omega))]
    exact ⟨b1, b2, b3, b4, b5, b6, hE⟩
  · exact (w5.cg (fun k hk => congrFun (ei _ (lv_l hk) (by omega)) 1) (fun g hg => ei _ (lv_a hg (show 0 < 2 by decide)) (by omega)) (fun k hk => ⟨ei _ (lv_y hk) (by omega), el _ (lv_y hk) (by omega)⟩)).u (hU 15 (by omega)) (hU 17 (by omega)) (fun k a b => hU k (by omega)) (hU 47 (by omega)) (hU 48 (by omega)) (hU 50 (by omega)) (hU 51 (by omega)) (l2 49)
theorem et_w {τ : Mu} {G : gW} {α : Nat → Nat} {M M1 M2 : Mem} {c d : Nat} (hw : WF τ) (hwU : WF (elU τ c d)) (ws : WS τ G α M) (wt : WT τ α M) (wb : WB τ α M) (f : frm (EtA α) M M1) (hE : ElF (elU τ c d) (mI M1) (eO α)) (g : frm (StA α) M1 M2) (h1 : ∀ p, p < 6 → mI M2 (bO α p 0) 0 = 1) : WD (elU τ c d) G α M2 := by
  have h9 := hw.nc.2
  have hU : ∀ k, k < 22 ∨ 27 < k → (elU τ c d).1 k = τ.1 k := fun k hk => elU_o hk
  obtain ⟨ws1, wt1⟩ := el_w hw hU rfl ws wt f hE
  have e9 : un (elU τ c d) 9 9 = un τ 9 9 := congrFun (un_e (hU 9 (by omega))) 9
  refine stale_w hwU ws1 wt1 (fun c hc hz => ?_) g h1
  rw [e9] at hc
  have hn : ∀ o, o < 10 → ¬ EtA α (cO α c o) := fun o ho => EtA.no ws.1 (lv_c hc ho) (by omega)
  exact ((wb.1 c hc (by rw [← f.i (hn 0 (by decide))]; exact hz)).fr f (hn 7 (by decide)) (hn 8 (by decide))).u (fun k hk => hU k (by omega))
