/-! THE CLASS: contribution -/
theorem upV_e {f g : Nat → Int32} {d : Nat} {a : Int32} (ha : 0 ≤ a) (hf : f d = a) (hg : ∀ m, m ≠ d → f m = g m) : (fun m => if 0 ≤ f m then some (f m) else none) = upV (fun m => if 0 ≤ g m then some (g m) else none) d a := by
  funext m
  unfold upV
  by_cases e : m = d
  · subst e; rw [if_pos rfl, hf, if_pos ha]
  · rw [if_neg e, hg m e]
theorem upV_e2 {f g k l : Nat → Int32} {d : Nat} {a b : Int32} (ha : 0 ≤ a) (hf : f d = a) (hg : ∀ m, m ≠ d → f m = g m) (hk : k d = b) (hl : ∀ m, m ≠ d → k m = l m) : (fun m => if 0 ≤ f m then some (k m) else none) = upV (fun m => if 0 ≤ g m then some (l m) else none) d b := by
  funext m
  unfold upV
  by_cases e : m = d
  · subst e; rw [if_pos rfl, hf, if_pos ha, hk]
  · rw [if_neg e, hg m e, hl m e]
theorem nn32 {n : Nat} (h : n < 2 ^ 31) : (0 : Int32) ≤ nI n := by
  rw [Int32.le_iff_toInt_le, nI_toInt h, z32]
  omega
/-- a place's cells that contribution changes -/
def CbA (α : Nat → Nat) (c a : Nat) : Prop := ∃ o, 1 ≤ o ∧ o < 7 ∧ a = gO α c o
theorem CbA.lv {τ : Mu} {α : Nat → Nat} {c a : Nat} (hc : c < 3) (h : CbA α c a) : ∃ k, LV τ k ∧ a = α k := by
  obtain ⟨o, h1, h2, e⟩ := h
  exact ⟨_, lv_g hc (show o < 35 by omega), e⟩
theorem CbA.no {τ : Mu} {α : Nat → Nat} {c k : Nat} (hi : INJ τ α) (hc : c < 3) (hk : LV τ k) (h : ¬ (372 + 35 * c ≤ k ∧ k < 378 + 35 * c)) : ¬ CbA α c (α k) := by
  rintro ⟨o, h1, h2, e⟩
  have := hi _ _ hk (lv_g hc (show o < 35 by omega)) e
  omega
theorem cb_w {τ : Mu} {G : gW} {α : Nat → Nat} {M M1 M2 : Mem} {c d a b : Nat} (hc : c < 3) (hd : d < 24) (ha : a ≤ 500) (hb : b ≤ 100000000) (hw : WF τ) (ws : WS τ G α M) (wt : WT τ α M) (wb : WB τ α M) (f : frm (CbA α c) M M1)
    (s1 : StV (upV (crV τ c) d (nI a)) (mI M1) (gO α c 2) (gO α c 3) 24) (s2 : StV (upV (clV τ c) d (nI b)) (mI M1) (gO α c 5) (gO α c 6) 24)
    (g : frm (StA α) M1 M2) (h1 : ∀ p, p < 6 → mI M2 (bO α p 0) 0 = 1) : WD (sI (sI τ 31 (24 * c + d) (nI a)) 32 (24 * c + d) (nI b)) G α M2 := by
  have h9 := hw.nc.2
  have h44 := hw.ng.2
  have hwU := wf_contribution hw (i := 24 * c + d) ha hb
  have hU : ∀ k, k ≠ 31 → k ≠ 32 → (sI (sI τ 31 (24 * c + d) (nI a)) 32 (24 * c + d) (nI b)).1 k = τ.1 k := fun k k1 k2 => (up2_row _ _ k2).trans (up2_row _ _ k1)
  have u31 : ∀ i, (sI (sI τ 31 (24 * c + d) (nI a)) 32 (24 * c + d) (nI b)).1 31 i = if i = 24 * c + d then nI a else τ.1 31 i := fun i => by
    show up2 (up2 τ.1 31 (24 * c + d) (nI a)) 32 (24 * c + d) (nI b) 31 i = _
    rw [up2_row _ _ (by decide)]
    by_cases e : i = 24 * c + d
    · rw [if_pos e, e, up2_same]
    · rw [if_neg e, up2_k _ _ e]
  have u32 : ∀ i, (sI (sI τ 31 (24 * c + d) (nI a)) 32 (24 * c + d) (nI b)).1 32 i = if i = 24 * c + d then nI b else τ.1 32 i := fun i => by
    show up2 (up2 τ.1 31 (24 * c + d) (nI a)) 32 (24 * c + d) (nI b) 32 i = _
    by_cases e : i = 24 * c + d
    · rw [if_pos e, e, up2_same]
    · rw [if_neg e, up2_k _ _ e, up2_row _ _ (by decide)]
  generalize hUe : sI (sI τ 31 (24 * c + d) (nI a)) 32 (24 * c + d) (nI b) = U at hU hwU u31 u32 ⊢
  have hU2 : U.2 = τ.2 := by rw [← hUe]; rfl
  have l2 : ∀ k, U.2 k = τ.2 k := fun k => by rw [hU2]
  have n : ∀ k, LV τ k → ¬ (372 + 35 * c ≤ k ∧ k < 378 + 35 * c) → ¬ CbA α c (α k) := fun k hk h => CbA.no ws.1 hc hk h
  have ei : ∀ k, LV τ k → ¬ (372 + 35 * c ≤ k ∧ k < 378 + 35 * c) → mI M1 (α k) = mI M (α k) := fun k hk h => f.i (n k hk h)
  have el : ∀ k, LV τ k → ¬ (372 + 35 * c ≤ k ∧ k < 378 + 35 * c) → mL M1 (α k) = mL M (α k) := fun k hk h => f.l (n k hk h)
  have ws1 : WS U G α M1 := (ws.fr f (fun k hk => n k (lc_bc (p := 0) hk).1 (by rcases hk with rfl | rfl | rfl | ⟨q, o, h1, h2, h3, rfl⟩ <;> omega))).u (hU 0 (by decide) (by decide)) (hU 9 (by decide) (by decide)) (hU 14 (by decide) (by decide)) (hU 15 (by decide) (by decide)) (hU 17 (by decide) (by decide)) (hU 38 (by decide) (by decide)) (hU 40 (by decide) (by decide)) (hU 44 (by decide) (by decide)) (hU 51 (by decide) (by decide))
  have e9 : un U 9 9 = un τ 9 9 := congrFun (un_e (hU 9 (by decide) (by decide))) 9
  obtain ⟨w1, w2, w3, w4, w5⟩ := wt
  have wt1 : WT U α M1 := by
    refine ⟨fun c hc => ?_, fun r hr => ?_, fun q hq => ?_, ?_, ?_⟩
    · rw [e9] at hc
      exact ((w1 c hc).cg (fun k _ => congrFun (ei _ (lv_c hc (show 0 < 10 by decide)) (by omega)) k) (fun o _ ho => ei _ (lv_c hc (show o < 10 by omega)) (by omega))).u (fun k hk => hU k (by omega) (by omega))
    · exact ((w2 r hr).cg (fun o ho => ei _ (lv_h hr (show o < 57 by omega)) (by omega)) (fun o ho => el _ (lv_h hr (show o < 57 by omega)) (by omega))).u (hU 30 (by decide) (by decide)) (hU 36 (by decide) (by decide)) (hU 37 (by decide) (by decide)) (hU 47 (by decide) (by decide)) (hU 50 (by decide) (by decide)) (hU 51 (by decide) (by decide)) (l2 45) (l2 49)
    · obtain ⟨b1, b2, b3, b4⟩ := w3 q hq
      have bb : ∀ s, s < 2 → BrF U (48 * q + 24 * s) (mI M1) (fun o => gO α q (11 + 12 * s + o)) := fun s hs => (BrF.cg (b3 s hs) (fun o ho => ei _ (lv_g hq (show 11 + 12 * s + o < 35 by omega)) (by rcases Nat.lt_trichotomy q c with z | z | z <;> omega))).u (hU 33 (by decide) (by decide)) (hU 34 (by decide) (by decide)) (hU 35 (by decide) (by decide))
      have b8 : ∀ m, m < 24 → mL M1 (gO α q 8) m = U.2 52 (24 * q + m) ∧ mL M1 (gO α q 9) m = U.2 53 (24 * q + m) ∧ mI M1 (gO α q 10) m = U.1 54 (24 * q + m) := by
        rw [show mL M1 (gO α q 8) = mL M (gO α q 8) from el _ (lv_g hq (by decide)) (by omega), show mL M1 (gO α q 9) = mL M (gO α q 9) from el _ (lv_g hq (by decide)) (by omega), show mI M1 (gO α q 10) = mI M (gO α q 10) from ei _ (lv_g hq (by decide)) (by omega), l2 52, l2 53, hU 54 (by decide) (by decide)]
        exact b4
      by_cases e : q = c
      · subst e
        have e1 : crV U q = upV (crV τ q) d (nI a) := upV_e (f := fun m => U.1 31 (24 * q + m)) (g := fun m => τ.1 31 (24 * q + m)) (nn32 (by omega)) ((u31 _).trans (if_pos rfl)) (fun m hm => (u31 _).trans (if_neg (by omega)))
        have e2 : clV U q = upV (clV τ q) d (nI b) := upV_e2 (f := fun m => U.1 31 (24 * q + m)) (g := fun m => τ.1 31 (24 * q + m)) (k := fun m => U.1 32 (24 * q + m)) (l := fun m => τ.1 32 (24 * q + m)) (a := nI a) (nn32 (by omega)) ((u31 _).trans (if_pos rfl)) (fun m hm => (u31 _).trans (if_neg (by omega))) ((u32 _).trans (if_pos rfl)) (fun m hm => (u32 _).trans (if_neg (by omega)))
        exact ⟨by rw [e1]; exact s1, by rw [e2]; exact s2, bb, b8⟩
      · have sv : ∀ {V W : Nat → Option Int32} {x y : Nat}, (∀ m, m < 24 → V m = W m) → mI M1 x = mI M x → mI M1 y = mI M y → StV V (mI M) x y 24 → StV W (mI M1) x y 24 := fun {V W x y} hv hx hy s m hm => by
          rw [hx, hy, ← hv m hm, ← lsV_cg (n := m + 1) (fun k hk => hv k (by omega))]
          exact s m hm
        have nq : ∀ m, m < 24 → ¬ 24 * q + m = 24 * c + d := fun m hm => by rcases Nat.lt_trichotomy q c with z | z | z <;> omega
        have v1 : ∀ m, m < 24 → crV τ q m = crV U q m := fun m hm => by unfold crV; rw [u31, if_neg (nq m hm)]
        have v2 : ∀ m, m < 24 → clV τ q m = clV U q m := fun m hm => by unfold clV; rw [u31, u32, if_neg (nq m hm), if_neg (nq m hm)]
        exact ⟨sv v1 (ei _ (lv_g hq (by decide)) (by omega)) (ei _ (lv_g hq (by decide)) (by omega)) b1, sv v2 (ei _ (lv_g hq (by decide)) (by omega)) (ei _ (lv_g hq (by decide)) (by omega)) b2, bb, b8⟩
    · obtain ⟨b1, b2, b3, b4, b5, b6, b7⟩ := w4
      have e0 : mI M1 (α 0) = mI M (α 0) := ei 0 (lv_s (by decide)) (by omega)
      unfold WTx
      rw [e0, un_e (hU 13 (by decide) (by decide)), un_e (hU 17 (by decide) (by decide)), un_e (hU 18 (by decide) (by decide)), un_e (hU 19 (by decide) (by decide)), un_e (hU 20 (by decide) (by decide)), un_e (hU 46 (by decide) (by decide))]
      exact ⟨b1, b2, b3, b4, b5, b6, (b7.cgs (fun o ho => ei (4 + o) (lv_s (by omega)) (by omega))).u (hU 22 (by decide) (by decide)) (hU 23 (by decide) (by decide)) (hU 24 (by decide) (by decide)) (hU 25 (by decide) (by decide)) (hU 26 (by decide) (by decide)) (hU 27 (by decide) (by decide))⟩
    · exact (w5.cg (fun k hk => congrFun (ei _ (lv_l hk) (by omega)) 1) (fun g hg => ei _ (lv_a hg (show 0 < 2 by decide)) (by omega)) (fun k hk => ⟨ei _ (lv_y hk) (by omega), el _ (lv_y hk) (by omega)⟩)).u (hU 15 (by decide) (by decide)) (hU 17 (by decide) (by decide)) (fun k a b => hU k (by omega) (by omega)) (hU 47 (by decide) (by decide)) (hU 48 (by decide) (by decide)) (hU 50 (by decide) (by decide)) (hU 51 (by decide) (by decide)) (l2 49)
  refine stale_w hwU ws1 wt1 (fun c hc hz => ?_) g h1
  rw [e9] at hc
  have hn : ∀ o, o < 10 → ¬ CbA α _ (cO α c o) := fun o ho => n _ (lv_c hc ho) (by omega)
  exact ((wb.1 c hc (by rw [← f.i (hn 0 (by decide))]; exact hz)).fr f (hn 7 (by decide)) (hn 8 (by decide))).u (fun k hk => hU k (by omega) (by omega))
