/-! WORLD: one person's contracts -/
theorem WTc.ag {τ U : Mu} {α : Nat → Nat} {M : Mem} {c : Nat} (hw : WF τ) (hc : c < un τ 9 9) (a : CAg c τ U) (h6 : ∀ d, d < 720 → U.1 6 (720 * c + d) = τ.1 6 (720 * c + d)) (h3 : ∃ sn sk, EnN (fun k => un U 10 k = c) (un U 13 13) sn sk ∧ mI M (cO α c 0) 10 = nI sn ∧ ∀ j, j < sn → mI M (cO α c 5) j = nI (un U 11 (sk j)) ∧ mI M (cO α c 6) j = nI (un U 11 (sk j) + un U 12 (sk j))) (w : WTc τ α M c) : WTc U α M c := by
  have ht := (hw.ct c hc).2
  obtain ⟨⟨b0, b1, b2, b3, b4, b5, b6, b7⟩, w2, _⟩ := w
  refine ⟨⟨by rw [a.1 0 (by decide)]; exact b0, by rw [a.1 1 (by decide)]; exact b1, by rw [a.1 2 (by decide)]; exact b2, by rw [a.1 3 (by decide)]; exact b3, by rw [a.1 4 (by decide)]; exact b4, by rw [a.1 5 (by decide)]; exact b5, fun d h1 h2 => ?_, fun d hd => by rw [(a.2 d hd).2]; exact b7 d hd⟩, ?_, h3⟩
  · rw [a.1 2 (by decide)] at h1
    rw [a.1 3 (by decide)] at h2
    rw [(a.2 d (by omega)).1 h1 h2]; exact b6 d h1 h2
  · have e : pyV U c = pyV τ c := by
      funext d
      unfold pyV
      rw [a.1 2 (by decide), a.1 3 (by decide)]
      by_cases q : un τ 2 c ≤ d ∧ d ≤ un τ 3 c
      · rw [h6 d (by omega)]
      · rw [if_neg (fun z => q ⟨z.1, z.2.1⟩), if_neg (fun z => q ⟨z.1, z.2.1⟩)]
    rw [e]; exact w2
theorem ch_w {τ U : Mu} {G : gW} {β : Nat → Nat} {M1 : Mem} {p : Nat} (hwU : WF U) (hp : p < 6) (ws1 : WS U G β M1) (wt1 : WT U β M1) (wc : ∀ c, c < un U 9 9 → mI M1 (cO β c 0) 11 = 0 → CoW U c (mI M1) (mL M1) (cO β c)) (hv : ∀ r, r < 6 → r ≠ p → VP r τ U) (hb : ∀ r, r < 6 → r ≠ p → mI M1 (bO β r 0) 0 = 0 → BF τ r β M1) : WD U G β (wI M1 (bO β p 0) 0 (nI 1)) :=
  stale_1 hwU hp ws1 wt1 wc (fun r hr q hz => BF.vp (hv r hr q) (hb r hr q hz))
theorem wI_cm {M : Mem} {a b x y : Nat} {v w : Int32} (h : a ≠ b) : wI (wI M a x v) b y w = wI (wI M b y w) a x v := by
  unfold wI
  refine Prod.ext rfl (Prod.ext rfl (Prod.ext ?_ rfl))
  funext i j
  show up2 (up2 M.2.2.1 a x v) b y w i j = up2 (up2 M.2.2.1 b y w) a x v i j
  unfold up2
  by_cases e : i = b
  · subst e
    have h2 : ¬ i = a := fun z => h z.symm
    simp [h2]
  · by_cases e2 : i = a
    · subst e2
      simp [e]
    · simp [e, e2]
/-- some cells of a contract -/
def CoX2 (α : Nat → Nat) (c a : Nat) : Prop := ∃ o, o < 7 ∧ a = cO α c o
theorem CoX2.lv {τ : Mu} {α : Nat → Nat} {c a : Nat} (hc : c < un τ 9 9) (h : CoX2 α c a) : ∃ k, LV τ k ∧ a = α k := by
  obtain ⟨o, h1, e⟩ := h
  exact ⟨_, lv_c hc (show o < 10 by omega), e⟩
theorem CoX2.no {τ : Mu} {α : Nat → Nat} {c k : Nat} (hi : INJ τ α) (hc : c < un τ 9 9) (hk : LV τ k) (h : ¬ (1000 + 10 * c ≤ k ∧ k < 1007 + 10 * c)) : ¬ CoX2 α c (α k) := by
  rintro ⟨o, h1, e⟩
  have := hi _ _ hk (lv_c hc (show o < 10 by omega)) e
  omega
theorem CoX2.lc {τ : Mu} {α : Nat → Nat} {c k : Nat} (hi : INJ τ α) (hc : c < un τ 9 9) (hk : LC k) : ¬ CoX2 α c (α k) := CoX2.no hi hc (lc_bc (p := 0) hk).1 (by rcases hk with rfl | rfl | rfl | ⟨q, o, h1, h2, h3, rfl⟩ <;> omega)
theorem py_l {V V' : Nat → Option Int32} {τ σ : Mu} {c f t D p : Nat} (hp : p < 2 ^ 31) (hV : ∀ d, f ≤ d → d ≤ t → V d = if 0 ≤ τ.1 6 (720 * c + d) then some (τ.1 6 (720 * c + d)) else none) (h : ∀ d, f ≤ d → d ≤ t → lsV V (d + 1) = spreadV τ c (d + 1)) (hD : f ≤ D) (hs : σ.1 6 (720 * c + D) = nI p) (ho : ∀ d, d ≠ D → σ.1 6 (720 * c + d) = τ.1 6 (720 * c + d)) (e' : V' = upV V D (nI p)) : ∀ k, f + k ≤ t → lsV V' (f + k + 1) = spreadV σ c (f + k + 1)
  | 0, hk => by
    subst e'
    by_cases q : f = D
    · subst q
      show (match upV V f (nI p) f with | some v => v | none => lsV (upV V f (nI p)) f) = (if 0 ≤ σ.1 6 (720 * c + f) then σ.1 6 (720 * c + f) else spreadV σ c f)
      rw [show upV V f (nI p) f = some (nI p) from if_pos rfl, hs, if_pos (nn32 hp)]
    · rw [lsV_up1 (by omega), h f (Nat.le_refl _) hk]
      have cg : ∀ n, n ≤ f + 1 → spreadV τ c n = spreadV σ c n := by
        intro n
        induction n with
        | zero => intro _; rfl
        | succ n ih =>
          intro hn
          show (if 0 ≤ τ.1 6 (720 * c + n) then τ.1 6 (720 * c + n) else spreadV τ c n) = (if 0 ≤ σ.1 6 (720 * c + n) then σ.1 6 (720 * c + n) else spreadV σ c n)
          rw [ho n (by omega), ih (by omega)]
      exact cg _ (by omega)
  | k + 1, hk => by
    have ih := py_l hp hV h hD hs ho e' k (by omega)
    subst e'
    show (match upV V D (nI p) (f + (k + 1)) with | some v => v | none => lsV (upV V D (nI p)) (f + (k + 1))) = (if 0 ≤ σ.1 6 (720 * c + (f + (k + 1))) then σ.1 6 (720 * c + (f + (k + 1))) else spreadV σ c (f + (k + 1)))
    by_cases q : f + (k + 1) = D
    · rw [q, show upV V D (nI p) D = some (nI p) from if_pos rfl, hs, if_pos (nn32 hp)]
    · rw [show upV V D (nI p) (f + (k + 1)) = V (f + (k + 1)) from if_neg q, hV _ (by omega) hk, ho _ q]
      by_cases z : 0 ≤ τ.1 6 (720 * c + (f + (k + 1)))
      · rw [if_pos z, if_pos z]
      · rw [if_neg z, if_neg z]; exact ih
theorem pc_D {τ : Mu} {c d : Nat} (h : un τ 2 c ≤ un τ 3 c) : pyC τ c (max d (un τ 2 c)) = payD τ c d := by
  unfold pyC payD pyI isOfN
  by_cases q : un τ 3 c < d
  · rw [if_pos q, if_neg (by rw [decide_eq_false (by omega)]; decide)]
  · rw [if_neg q]
    by_cases z : d < un τ 2 c
    · rw [if_pos z, if_pos (decide_eq_true (by omega)), show max d (un τ 2 c) = un τ 2 c by omega]
    · rw [if_neg z, if_pos (decide_eq_true (by omega)), show max d (un τ 2 c) = d by omega]
theorem py_w {τ : Mu} {G : gW} {α : Nat → Nat} {M M1 : Mem} {c D p : Nat} (hc : c < un τ 9 9) (hD : D < 720) (hDf : un τ 2 c ≤ D) (hp : p ≤ 1000000) (hw : WF τ) (ws : WS τ G α M) (wt : WT τ α M) (wb : WB τ α M) (f0 : frm (fun a => a = cO α c 0 ∨ a = cO α c 2 ∨ a = cO α c 3) M M1) (h0 : ∀ k, k ≠ 11 → mI M1 (cO α c 0) k = mI M (cO α c 0) k)
    (hs : if D ≤ un τ 3 c then mI M1 (cO α c 0) 11 = nI 1 ∧ StV (upV (pyV τ c) D (nI p)) (mI M1) (cO α c 2) (cO α c 3) 720 else M1 = M) : WD (spS (sI τ 6 (720 * c + D) (nI p)) c 720) G α (wI M1 (bO α (un τ 0 c) 0) 0 (nI 1)) := by
  have h9 := hw.nc.2
  have h44 := hw.ng.2
  have h17 := hw.nl.2
  have hq : un τ 0 c < 6 := by have := (hw.cw c hc).2; omega
  have hft := hw.cft c hc
  have ht := (hw.ct c hc).2
  have hwU := wf_pay hw (c := c) (j := 720 * c + D) (v := p) (by omega) (by omega) hp
  have f : frm (CoX2 α c) M M1 := f0.mono fun a h => by
    rcases h with h | h | h
    · exact ⟨0, by decide, h⟩
    · exact ⟨2, by decide, h⟩
    · exact ⟨3, by decide, h⟩
  have hU : ∀ k, k < 6 ∨ 7 < k → (spS (sI τ 6 (720 * c + D) (nI p)) c 720).1 k = τ.1 k := fun k hk => funext fun x => (spS_o _ _ _ _ _ (by omega)).trans (congrFun (sI_r (by omega)) x)
  have l2 : ∀ k, (spS (sI τ 6 (720 * c + D) (nI p)) c 720).2 k = τ.2 k := fun k => rfl
  have u6 : ∀ x, x ≠ 720 * c + D → (spS (sI τ 6 (720 * c + D) (nI p)) c 720).1 6 x = τ.1 6 x := fun x hx => (spS_o _ _ _ _ _ (by decide)).trans (sI_k hx)
  have u6D : (spS (sI τ 6 (720 * c + D) (nI p)) c 720).1 6 (720 * c + D) = nI p := (spS_o _ _ _ _ _ (by decide)).trans sI_s
  have u7o : ∀ x, ¬ (720 * c ≤ x ∧ x < 720 * c + 720) → (spS (sI τ 6 (720 * c + D) (nI p)) c 720).1 7 x = τ.1 7 x := fun x hx => (if_neg (fun z => hx z.2)).trans (congrFun (sI_r (by decide)) x)
  have u7 : ∀ d, d < 720 → (spS (sI τ 6 (720 * c + D) (nI p)) c 720).1 7 (720 * c + d) = spreadV (sI τ 6 (720 * c + D) (nI p)) c (d + 1) := fun d hd => (if_pos ⟨rfl, by omega, by omega⟩).trans (by rw [show 720 * c + d - 720 * c + 1 = d + 1 by omega])
  have s6 : (sI τ 6 (720 * c + D) (nI p)).1 6 (720 * c + D) = nI p := sI_s
  have s6o : ∀ d, d ≠ D → (sI τ 6 (720 * c + D) (nI p)).1 6 (720 * c + d) = τ.1 6 (720 * c + d) := fun d hd => sI_k (by omega)
  generalize hUe : spS (sI τ 6 (720 * c + D) (nI p)) c 720 = U at hU l2 u6 u6D u7o u7 hwU ⊢
  generalize sI τ 6 (720 * c + D) (nI p) = σ at u7 s6 s6o
  have n : ∀ k, LV τ k → ¬ (1000 + 10 * c ≤ k ∧ k < 1007 + 10 * c) → ¬ CoX2 α c (α k) := fun k hk h => CoX2.no ws.1 hc hk h
  have ws1 : WS U G α M1 := (ws.fr f (fun k hk => CoX2.lc ws.1 hc hk)).u (hU 0 (by omega)) (hU 9 (by omega)) (hU 14 (by omega)) (hU 15 (by omega)) (hU 17 (by omega)) (hU 38 (by omega)) (hU 40 (by omega)) (hU 44 (by omega)) (hU 51 (by omega))
  have e9 : un U 9 9 = un τ 9 9 := congrFun (un_e (hU 9 (by omega))) 9
  have ao : ∀ x, x < un τ 9 9 → x ≠ c → CAg x τ U := fun x hx q => ⟨fun k hk => congrFun (un_e (hU k (by omega))) x, fun d hd => ⟨fun _ _ => un_cg (u7o _ (by rcases Nat.lt_trichotomy x c with z | z | z <;> omega)), congrFun (un_e (hU 8 (by omega))) _⟩⟩
  have hvp : ∀ r, (∀ x, x < un τ 9 9 → un τ 0 x = r → CAg x τ U) → VP r τ U := fun r ha => ⟨hw, ⟨Nat.le_of_eq e9.symm, fun x hx => by rw [e9] at hx; rw [un_e (hU 0 (by omega))]; exact ⟨fun z => ⟨hx, z⟩, fun z => z.2⟩, ha⟩, VPl.of (hU 0 (by omega)) fun k h1 _ => hU k (by omega), VPe.of fun k h1 _ => hU k (by omega), VPt.of (fun k h1 _ => hU k (by omega)) (fun m _ => by rw [l2]), VPg.of fun k h1 _ => hU k (by omega)⟩
  have hbr : ∀ r, r < 6 → mI M1 (bO α r 0) 0 = 0 → (∀ x, x < un τ 9 9 → un τ 0 x = r → x ≠ c) → BF τ r α M1 := fun r hr z hx => by
    have nb : ∀ o, o < 42 → ¬ CoX2 α c (bO α r o) := fun o ho => n _ (lv_b hr ho) (by omega)
    have nc : ∀ x, x < un τ 9 9 → x ≠ c → ∀ o, o < 10 → ¬ CoX2 α c (cO α x o) := fun x h1 h2 o ho => n _ (lv_c h1 ho) (by omega)
    exact BF.cg (fun o ho => ⟨f.i (nb o ho), f.l (nb o ho)⟩) (fun g hg _ => f.l (n _ (lv_a hg (by decide)) (by omega))) (fun x h1 h2 => ⟨f.i (nc x h1 (hx x h1 h2) 8 (by decide)), f.l (nc x h1 (hx x h1 h2) 7 (by decide)), f.l (nc x h1 (hx x h1 h2) 9 (by decide))⟩) (fun k hk _ => congrFun (f.i (n _ (lv_l hk) (by omega))) 2) (wb.2 r hr (by rw [← f.i (nb 0 (by decide))]; exact z))
  obtain ⟨w1, w2, w3, w4, w5⟩ := wt
  have r3 : ∀ x, x < un τ 9 9 → ∃ sn sk, EnN (fun k => un U 10 k = x) (un U 13 13) sn sk ∧ mI M1 (cO α x 0) 10 = nI sn ∧ ∀ j, j < sn → mI M1 (cO α x 5) j = nI (un U 11 (sk j)) ∧ mI M1 (cO α x 6) j = nI (un U 11 (sk j) + un U 12 (sk j)) := fun x hx => by
    obtain ⟨_, _, sn, sk, a1, a2, a3⟩ := w1 x hx
    rw [un_e (hU 10 (by omega)), un_e (hU 11 (by omega)), un_e (hU 12 (by omega)), un_e (hU 13 (by omega))]
    have nx : ∀ o, o ≠ 0 → o ≠ 2 → o ≠ 3 → o < 10 → mI M1 (cO α x o) = mI M (cO α x o) := fun o q1 q2 q3 q4 => f0.i (fun z => by rcases z with z | z | z <;> (have := ws.1 _ _ (lv_c hx q4) (lv_c hc (by decide)) z; omega))
    refine ⟨sn, sk, a1, ?_, fun j hj => by rw [nx 5 (by decide) (by decide) (by decide) (by decide), nx 6 (by decide) (by decide) (by decide) (by decide)]; exact a3 j hj⟩
    by_cases q : x = c
    · subst q; exact (h0 10 (by decide)).trans a2
    · exact (congrFun (f.i (n _ (lv_c hx (show 0 < 10 by decide)) (by omega))) 10).trans a2
  have wto : ∀ x, x < un τ 9 9 → x ≠ c → WTc U α M1 x := fun x hx q => ((w1 x hx).cg (fun k _ => congrFun (f.i (n _ (lv_c hx (show 0 < 10 by decide)) (by omega))) k) (fun o _ ho => f.i (n _ (lv_c hx (show o < 10 by omega)) (by omega)))).ag hw hx (ao x hx q) (fun d hd => u6 _ (by rcases Nat.lt_trichotomy x c with z | z | z <;> omega)) (r3 x hx)
  have rest : (∀ x, x < un U 9 9 → WTc U α M1 x) → WT U α M1 := fun hx => by
    refine ⟨hx, fun r hr => ?_, fun q hq => ?_, ?_, ?_⟩
    · exact ((w2 r hr).cg (fun o ho => f.i (n _ (lv_h hr (show o < 57 by omega)) (by omega))) (fun o ho => f.l (n _ (lv_h hr (show o < 57 by omega)) (by omega)))).u (hU 30 (by omega)) (hU 36 (by omega)) (hU 37 (by omega)) (hU 47 (by omega)) (hU 50 (by omega)) (hU 51 (by omega)) (l2 45) (l2 49)
    · exact ((w3 q hq).cg (fun o ho => f.i (n _ (lv_g hq ho) (by omega))) (fun o ho => f.l (n _ (lv_g hq ho) (by omega)))).u (hU 31 (by omega)) (hU 32 (by omega)) (hU 33 (by omega)) (hU 34 (by omega)) (hU 35 (by omega)) (hU 54 (by omega)) (l2 52) (l2 53)
    · obtain ⟨b1, b2, b3, b4, b5, b6, b7⟩ := w4
      have e0 := f.i (n 0 (lv_s (by decide)) (by omega))
      unfold WTx
      rw [e0, un_e (hU 13 (by omega)), un_e (hU 17 (by omega)), un_e (hU 18 (by omega)), un_e (hU 19 (by omega)), un_e (hU 20 (by omega)), un_e (hU 46 (by omega))]
      exact ⟨b1, b2, b3, b4, b5, b6, (b7.cgs (fun o ho => f.i (n (4 + o) (lv_s (by omega)) (by omega)))).u (hU 22 (by omega)) (hU 23 (by omega)) (hU 24 (by omega)) (hU 25 (by omega)) (hU 26 (by omega)) (hU 27 (by omega))⟩
    · exact (w5.cg (fun k hk => congrFun (f.i (n _ (lv_l hk) (by omega))) 1) (fun g hg => f.i (n _ (lv_a hg (show 0 < 2 by decide)) (by omega))) (fun k hk => ⟨f.i (n _ (lv_y hk) (by omega)), f.l (n _ (lv_y hk) (by omega))⟩)).u (hU 15 (by omega)) (hU 17 (by omega)) (fun k a b => hU k (by omega)) (hU 47 (by omega)) (hU 48 (by omega)) (hU 50 (by omega)) (hU 51 (by omega)) (l2 49)
  by_cases z : D ≤ un τ 3 c
  · rw [if_pos z] at hs
    have hcU : WTc U α M1 c := by
      obtain ⟨⟨b0, b1, b2, b3, b4, b5, b6, b7⟩, g2, _⟩ := w1 c hc
      have e : pyV U c = upV (pyV τ c) D (nI p) := by
        funext d
        unfold upV
        by_cases q : d = D
        · subst q; rw [if_pos rfl]; unfold pyV; rw [un_e (hU 2 (by omega)), un_e (hU 3 (by omega)), u6D, if_pos ⟨hDf, z, nn32 (by omega)⟩]
        · rw [if_neg q]; unfold pyV; rw [un_e (hU 2 (by omega)), un_e (hU 3 (by omega)), u6 _ (by omega)]
      have key := py_l (V := pyV τ c) (V' := upV (pyV τ c) D (nI p)) (τ := τ) (σ := σ) (c := c) (f := un τ 2 c) (t := un τ 3 c) (D := D) (p := p) (by omega) (fun d h1 h2 => by
        unfold pyV
        by_cases q : 0 ≤ τ.1 6 (720 * c + d)
        · rw [if_pos ⟨h1, h2, q⟩, if_pos q]
        · rw [if_neg (fun y => q y.2.2), if_neg q]) (fun d h1 h2 => by
        rw [← (g2 d (by omega)).2, b6 d h1 h2, ← (hw.py (720 * c + d) (by omega)).1]
        exact hw.pyt c d (by omega) (by omega)) hDf s6 s6o rfl
      refine ⟨⟨by rw [h0 0 (by decide), un_e (hU 0 (by omega))]; exact b0, by rw [h0 1 (by decide), un_e (hU 1 (by omega))]; exact b1, by rw [h0 2 (by decide), un_e (hU 2 (by omega))]; exact b2, by rw [h0 3 (by decide), un_e (hU 3 (by omega))]; exact b3, by rw [h0 4 (by decide), un_e (hU 4 (by omega))]; exact b4, by rw [h0 5 (by decide), un_e (hU 5 (by omega))]; exact b5, fun d h1 h2 => ?_, fun d hd => ?_⟩, by rw [e]; exact hs.2, r3 c hc⟩
      · rw [un_e (hU 2 (by omega))] at h1
        rw [un_e (hU 3 (by omega))] at h2
        rw [(hs.2 d (by omega)).2, ← (hwU.py (720 * c + d) (by omega)).1, u7 d (by omega)]
        have k := key (d - un τ 2 c) (by omega)
        rw [show un τ 2 c + (d - un τ 2 c) + 1 = d + 1 by omega] at k
        exact k
      · rw [un_e (hU 8 (by omega)), show mI M1 (cO α c 4) = mI M (cO α c 4) from f0.i (fun z => by rcases z with z | z | z <;> (have := ws.1 _ _ (lv_c hc (show 4 < 10 by decide)) (lv_c hc (by decide)) z; omega))]
        exact b7 d hd
    refine ch_w (τ := τ) hwU hq ws1 (rest fun x hx => ?_) (fun x hx hz => ?_) (fun r hr q => hvp r fun x h1 h2 => ao x h1 (fun y => q (h2.symm.trans (congrArg (un τ 0) y)))) (fun r hr q hz => hbr r hr hz fun x h1 h2 y => q (h2.symm.trans (congrArg (un τ 0) y)))
    · rw [e9] at hx
      by_cases q : x = c
      · subst q; exact hcU
      · exact wto x hx q
    · rw [e9] at hx
      by_cases q : x = c
      · subst q; rw [hs.1] at hz; exact absurd hz (by decide)
      · have nx : ∀ o, o < 10 → ¬ CoX2 α c (cO α x o) := fun o ho => n _ (lv_c hx ho) (by omega)
        exact (ao x hx q).cw hw hx ((wb.1 x hx (by rw [← f.i (nx 0 (by decide))]; exact hz)).fr f (nx 7 (by decide)) (nx 8 (by decide)))
  · rw [if_neg z] at hs
    subst hs
    have sp : ∀ k, k ≤ D → spreadV σ c k = spreadV τ c k := by
      intro k
      induction k with
      | zero => intro _; rfl
      | succ k ih =>
        intro hk
        show (if 0 ≤ σ.1 6 (720 * c + k) then σ.1 6 (720 * c + k) else spreadV σ c k) = (if 0 ≤ τ.1 6 (720 * c + k) then τ.1 6 (720 * c + k) else spreadV τ c k)
        rw [s6o k (by omega), ih (by omega)]
    have ac : CAg c τ U := ⟨fun k hk => congrFun (un_e (hU k (by omega))) c, fun d hd => ⟨fun h1 h2 => un_cg ((u7 d hd).trans ((sp _ (by omega)).trans (hw.pyt c d (by omega) hd).symm)), congrFun (un_e (hU 8 (by omega))) _⟩⟩
    have aa : ∀ x, x < un τ 9 9 → CAg x τ U := fun x hx => by
      by_cases q : x = c
      · subst q; exact ac
      · exact ao x hx q
    refine ch_w (τ := τ) hwU hq ws1 (rest fun x hx => ?_) (fun x hx hz => ?_) (fun r hr q => hvp r fun x h1 h2 => aa x h1) (fun r hr q hz => wb.2 r hr hz)
    · rw [e9] at hx
      by_cases q : x = c
      · subst q
        obtain ⟨⟨b0, b1, b2, b3, b4, b5, b6, b7⟩, g2, _⟩ := w1 x hx
        have e : pyV U x = pyV τ x := by
          funext d
          unfold pyV
          rw [un_e (hU 2 (by omega)), un_e (hU 3 (by omega))]
          by_cases y : un τ 2 x ≤ d ∧ d ≤ un τ 3 x
          · rw [u6 _ (by omega)]
          · rw [if_neg (fun w => y ⟨w.1, w.2.1⟩), if_neg (fun w => y ⟨w.1, w.2.1⟩)]
        refine ⟨⟨by rw [un_e (hU 0 (by omega))]; exact b0, by rw [un_e (hU 1 (by omega))]; exact b1, by rw [un_e (hU 2 (by omega))]; exact b2, by rw [un_e (hU 3 (by omega))]; exact b3, by rw [un_e (hU 4 (by omega))]; exact b4, by rw [un_e (hU 5 (by omega))]; exact b5, fun d h1 h2 => ?_, fun d hd => by rw [un_e (hU 8 (by omega))]; exact b7 d hd⟩, by rw [e]; exact g2, r3 x hx⟩
        rw [un_e (hU 2 (by omega))] at h1
        rw [un_e (hU 3 (by omega))] at h2
        rw [(ac.2 d (by omega)).1 h1 h2]; exact b6 d h1 h2
      · exact wto x hx q
    · rw [e9] at hx
      exact (aa x hx).cw hw hx (wb.1 x hx hz)
