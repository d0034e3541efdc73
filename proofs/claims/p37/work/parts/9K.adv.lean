/-! WORLD: small changes -/
section Of
variable {r : Nat} {τ U : Mu}
theorem VPc.of (h : ∀ k, k < 10 → U.1 k = τ.1 k) : VPc r τ U :=
  ⟨Nat.le_of_eq (congrFun (un_e (h 9 (by decide))) 9).symm, fun c hc => by rw [un_e (h 9 (by decide))] at hc; rw [un_e (h 0 (by decide))]; exact ⟨fun z => ⟨hc, z⟩, fun z => z.2⟩, fun c _ _ => ⟨fun k hk => congrFun (un_e (h k (by omega))) c, fun d _ => ⟨fun _ _ => congrFun (un_e (h 7 (by decide))) _, congrFun (un_e (h 8 (by decide))) _⟩⟩⟩
theorem VPl.of (h0 : U.1 0 = τ.1 0) (h : ∀ k, 14 ≤ k → k < 21 → U.1 k = τ.1 k) : VPl r τ U :=
  ⟨Nat.le_of_eq (congrFun (un_e (h 17 (by decide) (by decide))) 17).symm, fun c hc => by rw [un_e (h 17 (by decide) (by decide))] at hc; rw [un_e h0, un_e (h 14 (by decide) (by decide))]; exact ⟨fun z => ⟨hc, z⟩, fun z => z.2⟩, fun c _ _ => ⟨congrFun (un_e (h 14 (by decide) (by decide))) c, congrFun (un_e (h 15 (by decide) (by decide))) c⟩,
    congrFun (un_e (h 18 (by decide) (by decide))) _, congrFun (un_e (h 19 (by decide) (by decide))) _, congrFun (un_e (h 20 (by decide) (by decide))) _⟩
theorem VPe.of (h : ∀ k, 22 ≤ k → k < 28 → U.1 k = τ.1 k) : VPe τ U :=
  ⟨congrFun (un_e (h 26 (by decide) (by decide))) 26, fun e _ => ⟨congrFun (un_e (h 24 (by decide) (by decide))) e, congrFun (un_e (h 25 (by decide) (by decide))) e, congrFun (un_e (h 27 (by decide) (by decide))) e⟩, fun i _ => ⟨congrFun (un_e (h 22 (by decide) (by decide))) i, congrFun (h 23 (by decide) (by decide)) i⟩⟩
theorem VPt.of (h : ∀ k, 30 ≤ k → k < 38 → U.1 k = τ.1 k) (l : ∀ m, m < 24 → U.2 45 (24 * r + m) = τ.2 45 (24 * r + m)) : VPt r τ U :=
  ⟨fun k h1 h2 => h k (by omega) (by omega), fun m q _ _ => congrFun (h 30 (by decide) (by decide)) _, fun m _ => congrFun (h 36 (by decide) (by decide)) _, fun m _ => congrFun (h 37 (by decide) (by decide)) _, l⟩
theorem VPg.of (h : ∀ k, 38 ≤ k → k < 45 → U.1 k = τ.1 k) : VPg r τ U :=
  ⟨Nat.le_of_eq (congrFun (un_e (h 44 (by decide) (by decide))) 44).symm, fun c hc => by rw [un_e (h 44 (by decide) (by decide))] at hc; rw [un_e (h 38 (by decide) (by decide))]; exact ⟨fun z => ⟨hc, z⟩, fun z => z.2⟩, fun c _ _ k h1 h2 => congrFun (un_e (h k (by omega) (by omega))) c⟩
theorem VP.of (hw : WF τ) (h : ∀ k, k < 45 → U.1 k = τ.1 k) (l : ∀ m, m < 24 → U.2 45 (24 * r + m) = τ.2 45 (24 * r + m)) : VP r τ U :=
  ⟨hw, VPc.of fun k hk => h k (by omega), VPl.of (h 0 (by decide)) fun k _ hk => h k (by omega), VPe.of fun k _ hk => h k (by omega), VPt.of (fun k _ hk => h k (by omega)) l, VPg.of fun k _ hk => h k (by omega)⟩
theorem WB.vp {α : Nat → Nat} {M : Mem} (v : ∀ r, r < 6 → VP r τ U) (h9 : U.1 9 = τ.1 9) (wb : WB τ α M) : WB U α M := by
  refine ⟨fun c hc z => ?_, fun p hp z => BF.vp (v p hp) (wb.2 p hp z)⟩
  rw [un_e h9] at hc
  have w := ((v 0 (by decide)).w.cw c hc).2
  exact (v (un τ 0 c) (by omega)).cw hc rfl (wb.1 c hc z)
end Of
/-- codes outside books, contracts, lists, leaves -/
def QK (k : Nat) : Prop := (k < 476 ∧ ¬ LC k ∧ ∀ p, p < 6 → ¬ (44 + 57 * p ≤ k ∧ k < 86 + 57 * p)) ∨ 1300 ≤ k
def QA (τ : Mu) (α : Nat → Nat) (A : Nat → Prop) : Prop := ∀ a, A a → ∃ k, LV τ k ∧ QK k ∧ a = α k
section QAs
variable {τ U : Mu} {G : gW} {α : Nat → Nat} {A : Nat → Prop} {M M1 : Mem}
theorem QA.no (h : QA τ α A) (hi : INJ τ α) {k : Nat} (hk : LV τ k) (hn : ¬ QK k) : ¬ A (α k) := fun z => by
  obtain ⟨j, h1, h2, e⟩ := h _ z
  exact hn (hi k j hk h1 e ▸ h2)
theorem QA.ws (h : QA τ α A) (f : frm A M M1) (ws : WS τ G α M) : WS τ G α M1 := ws.fr f (fun k hk => h.no ws.1 (lc_bc (p := 0) hk).1 (fun q => q.elim (fun q => q.2.1 hk) (fun q => by
  rcases hk with rfl | rfl | rfl | ⟨q, o, h1, h2, h3, rfl⟩ <;> omega)))
theorem QA.wb (h : QA τ α A) (hw : WF τ) (hi : INJ τ α) (f : frm A M M1) (wb : WB τ α M) : WB τ α M1 := by
  have h9 := hw.nc.2
  have h44 := hw.ng.2
  have h17 := hw.nl.2
  have n : ∀ k, LV τ k → ((∃ p, p < 6 ∧ 44 + 57 * p ≤ k ∧ k < 86 + 57 * p) ∨ (1000 ≤ k ∧ k < 1300)) → ¬ A (α k) := fun k hk q => h.no hi hk (fun z => by
    rcases z with z | z
    · rcases q with ⟨p, hp, q⟩ | q
      · exact z.2.2 p hp q
      · omega
    · rcases q with ⟨p, hp, q⟩ | q <;> omega)
  have nc : ∀ c, c < un τ 9 9 → ∀ o, o < 10 → ¬ A (cO α c o) := fun c hc o ho => n _ (lv_c hc ho) (.inr (by omega))
  have nb : ∀ r, r < 6 → ∀ o, o < 42 → ¬ A (bO α r o) := fun r hr o ho => n _ (lv_b hr ho) (.inl ⟨r, hr, by omega⟩)
  refine ⟨fun c hc z => (wb.1 c hc (by rw [← f.i (nc c hc 0 (by decide))]; exact z)).fr f (nc c hc 7 (by decide)) (nc c hc 8 (by decide)), fun r hr z => ?_⟩
  refine BF.cg (fun o ho => ⟨f.i (nb r hr o ho), f.l (nb r hr o ho)⟩) (fun g hg _ => f.l (n _ (lv_a hg (by decide)) (.inr (by omega)))) (fun c hc _ => ⟨f.i (nc c hc 8 (by decide)), f.l (nc c hc 7 (by decide)), f.l (nc c hc 9 (by decide))⟩) (fun k hk _ => congrFun (f.i (n _ (lv_l hk) (.inr (by omega)))) 2) (wb.2 r hr ?_)
  rw [← f.i (nb r hr 0 (by decide))]; exact z
theorem WTp.lo {r : Nat} (e : ∀ o, o < 15 → mI M1 (hO α r o) = mI M (hO α r o)) (h30 : U.1 30 = τ.1 30) (h36 : U.1 36 = τ.1 36) (h37 : U.1 37 = τ.1 37) (b5 : ∀ k, k < 24 → mL M1 (hO α r 14) k = U.2 45 (24 * r + k)) (b6 : mL M1 (hO α r 0) 8 = sumL (fun k => U.2 45 (24 * r + k)) 24) (b7 : mL M1 (hO α r 0) 9 = sumL (fun k => if un U 47 k = r ∧ un U 50 k = 0 then U.2 49 k else 0) (un U 51 51)) (w : WTp τ α M r) : WTp U α M1 r := by
  obtain ⟨a1, a2, a3, a4, _, _, _⟩ := w
  have e5 : stV U r = stV τ r := by unfold stV; rw [h36]
  have e8 : ptV U r = ptV τ r := by unfold ptV; rw [h37]
  unfold WTp StV
  rw [e 0 (by decide), e 5 (by decide), e 6 (by decide), e 8 (by decide), e 9 (by decide), h30, e5, e8]
  exact ⟨a1, a2, a3, fun q hq m hm => by rw [e (11 + q) (by omega)]; exact a4 q hq m hm, b5, b6, b7⟩
end QAs
theorem sumL_ad {f g : Nat → Int64} {e : Nat} {v : Int64} (he : f e = g e + v) (h : ∀ m, m ≠ e → f m = g m) : ∀ n, e < n → sumL f n = sumL g n + v
  | 0, hn => absurd hn (Nat.not_lt_zero _)
  | n + 1, hn => by
    show sumL f n + f n = sumL g n + g n + v
    by_cases q : e = n
    · subst q
      rw [sumL_cg (fun i hi => h i (by omega)), he, Int64.add_assoc]
    · rw [sumL_ad he h n (by omega), h n (fun z => q z.symm), Int64.add_assoc, Int64.add_assoc, Int64.add_comm v]
theorem op_r {n : Nat} (h : n ≤ 24) : rng (nI n) 24 = decide (n ≠ 24) := by
  unfold rng
  rw [nI_toInt (by omega)]
  exact decide_eq_decide.mpr (by omega)
theorem sL_s {τ : Mu} {k x : Nat} {v : Int64} : (sL τ k x v).2 k x = v := up2_same _ _ _ _
theorem sL_k {τ : Mu} {k x y : Nat} {v : Int64} (h : y ≠ x) : (sL τ k x v).2 k y = τ.2 k y := up2_k _ _ h
/-- advance -/
theorem aw_w {τ : Mu} {G : gW} {α : Nat → Nat} {M : Mem} {c e : Nat} {v : Int64} (hp : c < 6) (he : e < 24) (hw : WF τ) (ws : WS τ G α M) (wt : WT τ α M) (wb : WB τ α M) :
    WD (sL τ 45 (24 * c + e) (τ.2 45 (24 * c + e) + v)) G α (wI (wL (wL M (hO α c 14) e (τ.2 45 (24 * c + e) + v)) (hO α c 0) 8 (sumL (fun k => τ.2 45 (24 * c + k)) 24 + v)) (bO α c 0) 0 (nI 1)) := by
  have hb := (ws.2.2.1 c hp).1
  have l2 : ∀ k, k ≠ 45 → (sL τ 45 (24 * c + e) (τ.2 45 (24 * c + e) + v)).2 k = τ.2 k := fun k hk => by show up2 τ.2 45 _ _ k = _; exact up2_row _ _ hk
  have f : frm (PtB α c) M (wL (wL M (hO α c 14) e (τ.2 45 (24 * c + e) + v)) (hO α c 0) 8 (sumL (fun k => τ.2 45 (24 * c + k)) 24 + v)) := ((frm.rf (PtB α c) M).wl _ _ ⟨14, by decide, by decide, rfl⟩).wl _ _ ⟨0, by decide, by decide, rfl⟩
  have n14 : hO α c 14 ≠ hO α c 0 := hb.ne 14 0 rfl
  refine pb_w (τ := τ) hp hw (wf_advance hw) (fun k _ _ _ => rfl) (l2 49 (by decide)) (l2 52 (by decide)) (l2 53 (by decide)) (fun r hr q => ⟨fun k hk => rfl, fun k h1 h2 => rfl, fun k h1 h2 => rfl, fun m q _ _ => rfl, fun m hm => rfl, fun m hm => rfl, fun m hm => sL_k (by rcases Nat.lt_trichotomy r c with z | z | z <;> omega)⟩) ws wt wb f (wt.2.1 c hp).1 ?_
  refine WTp.lo (τ := τ) (M := M) (fun o ho => rfl) rfl rfl rfl (fun k hk => ?_) ?_ ?_ (wt.2.1 c hp)
  · rw [wL_a n14]
    by_cases q : k = e
    · subst q; exact wL_i.trans sL_s.symm
    · exact (wL_k q).trans (((wt.2.1 c hp).2.2.2.2.1 k hk).trans (sL_k (by omega)).symm)
  · exact wL_i.trans (sumL_ad (f := fun k => (sL τ 45 (24 * c + e) (τ.2 45 (24 * c + e) + v)).2 45 (24 * c + k)) sL_s (fun m hm => sL_k (by omega)) 24 he).symm
  · refine (wL_k (by decide)).trans ((congrFun (wL_a n14.symm) 9).trans ?_)
    rw [l2 49 (by decide)]
    exact (wt.2.1 c hp).2.2.2.2.2.2
/-- comeBack -/
def CmA (α : Nat → Nat) (k p a : Nat) : Prop := a = yO α k ∨ a = hO α p 0
theorem CmA.q {τ : Mu} {α : Nat → Nat} {k p : Nat} (hk : k < un τ 51 51) (hp : p < 6) : QA τ α (CmA α k p) := fun a h => by
  rcases h with h | h
  · exact ⟨_, lv_y hk, .inr (by omega), h⟩
  · refine ⟨_, lv_h hp (show 0 < 57 by decide), .inl ⟨by omega, ?_, fun r hr => by omega⟩, h⟩
    rintro (z | z | z | ⟨q, o, h1, h2, h3, z⟩) <;> omega
theorem cm_w {τ : Mu} {G : gW} {α : Nat → Nat} {M : Mem} {k : Nat} (hk : k < un τ 51 51) (h0 : un τ 50 k = 0) (hw : WF τ) (ws : WS τ G α M) (wt : WT τ α M) (wb : WB τ α M) :
    WD (sI τ 50 k (nI 1)) G α (wL (wI M (yO α k) 3 (nI 1)) (hO α (un τ 47 k) 0) 9 (mL M (hO α (un τ 47 k) 0) 9 - τ.2 49 k)) := by
  have h9 := hw.nc.2
  have h44 := hw.ng.2
  have h17 := hw.nl.2
  have hp : un τ 47 k < 6 := by have := (hw.pw k hk).2; omega
  generalize hpe : un τ 47 k = p at hp ⊢
  have hU : ∀ j, j ≠ 50 → (sI τ 50 k (nI 1)).1 j = τ.1 j := fun j hj => sI_r hj
  have u50 : ∀ j, un (sI τ 50 k (nI 1)) 50 j = if j = k then 1 else un τ 50 j := fun j => by
    by_cases q : j = k
    · subst q; rw [if_pos rfl]; unfold un; rw [sI_s]; exact nI_clamp (by decide)
    · rw [if_neg q]; exact un_cg (sI_k q)
  have f : frm (CmA α k p) M (wL (wI M (yO α k) 3 (nI 1)) (hO α p 0) 9 (mL M (hO α p 0) 9 - τ.2 49 k)) := ((frm.rf (CmA α k p) M).wi _ _ (.inl rfl)).wl _ _ (.inr rfl)
  have qa : QA τ α (CmA α k p) := CmA.q hk hp
  have n : ∀ j, LV τ j → j ≠ 1300 + k → j ≠ 29 + 57 * p → ¬ CmA α k p (α j) := fun j hj h1 h2 z => by
    rcases z with z | z
    · exact h1 (ws.1 _ _ hj (lv_y hk) z)
    · exact h2 (ws.1 _ _ hj (lv_h hp (show 0 < 57 by decide)) z)
  have ws1 := (qa.ws f ws).u (hU 0 (by decide)) (hU 9 (by decide)) (hU 14 (by decide)) (hU 15 (by decide)) (hU 17 (by decide)) (hU 38 (by decide)) (hU 40 (by decide)) (hU 44 (by decide)) (hU 51 (by decide))
  have wb1 := WB.vp (fun r hr => VP.of (U := sI τ 50 k (nI 1)) hw (fun k hk => hU k (by omega)) (fun m _ => rfl)) (hU 9 (by decide)) (qa.wb hw ws.1 f wb)
  have e9 := congrFun (un_e (hU 9 (by decide))) 9
  have e51 := congrFun (un_e (hU 51 (by decide))) 51
  obtain ⟨w1, w2, w3, w4, w5⟩ := wt
  refine ⟨ws1, ⟨fun c hc => ?_, fun r hr => ?_, fun q hq => ?_, ?_, ?_⟩, wb1⟩
  · rw [e9] at hc
    exact ((w1 c hc).cg (fun k _ => congrFun (f.i (n _ (lv_c hc (show 0 < 10 by decide)) (by omega) (by omega))) k) (fun o _ ho => f.i (n _ (lv_c hc (show o < 10 by omega)) (by omega) (by omega)))).u (fun k hk => hU k (by omega))
  · have ey : ∀ o, o < 15 → hO α r o ≠ yO α k := fun o ho => ws.1.ne (lv_h hr (show o < 57 by omega)) (lv_y hk) (by omega)
    have eh : hO α r 14 ≠ hO α p 0 := ws.1.ne (lv_h hr (by decide)) (lv_h hp (by decide)) (by omega)
    have b := w2 r hr
    refine WTp.lo (fun o ho => wI_a (ey o ho)) (hU 30 (by decide)) (hU 36 (by decide)) (hU 37 (by decide)) (fun j hj => (congrFun (wL_a eh) j).trans (b.2.2.2.2.1 j hj)) ?_ ?_ b
    · by_cases q : r = p
      · subst q; exact (wL_k (by decide)).trans b.2.2.2.2.2.1
      · exact (congrFun (wL_a (ws.1.ne (lv_h hr (by decide)) (lv_h hp (by decide)) (by omega))) 8).trans b.2.2.2.2.2.1
    · rw [e51, un_e (hU 47 (by decide))]
      by_cases q : r = p
      · subst q
        refine wL_i.trans ?_
        have s := sumL_ad (f := fun j => if un τ 47 j = r ∧ un (sI τ 50 k (nI 1)) 50 j = 0 then τ.2 49 j else 0) (g := fun j => if un τ 47 j = r ∧ un τ 50 j = 0 then τ.2 49 j else 0) (e := k) (v := - τ.2 49 k) (by
          show (if un τ 47 k = r ∧ un (sI τ 50 k (nI 1)) 50 k = 0 then τ.2 49 k else 0) = (if un τ 47 k = r ∧ un τ 50 k = 0 then τ.2 49 k else 0) + - τ.2 49 k
          rw [u50, if_pos rfl, if_neg (fun z => absurd z.2 (by decide)), if_pos ⟨hpe, h0⟩, Int64.add_right_neg]) (fun m hm => by
          show (if un τ 47 m = r ∧ un (sI τ 50 k (nI 1)) 50 m = 0 then τ.2 49 m else 0) = _
          rw [u50, if_neg hm]) (un τ 51 51) hk
        refine Eq.trans ?_ s.symm
        rw [show mL M (hO α r 0) 9 = _ from b.2.2.2.2.2.2, Int64.sub_eq_add_neg]
      · refine (congrFun (wL_a (ws.1.ne (lv_h hr (by decide)) (lv_h hp (by decide)) (by omega))) 9).trans (b.2.2.2.2.2.2.trans (sumL_cg fun j hj => ?_))
        show _ = if un τ 47 j = r ∧ un (sI τ 50 k (nI 1)) 50 j = 0 then τ.2 49 j else 0
        rw [u50]
        by_cases z : j = k
        · subst z; rw [if_neg (fun y => q (y.1.symm.trans hpe)), if_neg (fun y => q (y.1.symm.trans hpe))]
        · rw [if_neg z]
  · exact ((w3 q hq).cg (fun o ho => f.i (n _ (lv_g hq ho) (by omega) (by omega))) (fun o ho => f.l (n _ (lv_g hq ho) (by omega) (by omega)))).u (hU 31 (by decide)) (hU 32 (by decide)) (hU 33 (by decide)) (hU 34 (by decide)) (hU 35 (by decide)) (hU 54 (by decide)) rfl rfl
  · obtain ⟨b1, b2, b3, b4, b5, b6, b7⟩ := w4
    have e0 := f.i (n 0 (lv_s (by decide)) (by omega) (by omega))
    unfold WTx
    rw [e0, un_e (hU 13 (by decide)), un_e (hU 17 (by decide)), un_e (hU 18 (by decide)), un_e (hU 19 (by decide)), un_e (hU 20 (by decide)), un_e (hU 46 (by decide))]
    exact ⟨b1, b2, b3, b4, b5, b6, (b7.cgs (fun o ho => f.i (n (4 + o) (lv_s (by omega)) (by omega) (by omega)))).u (hU 22 (by decide)) (hU 23 (by decide)) (hU 24 (by decide)) (hU 25 (by decide)) (hU 26 (by decide)) (hU 27 (by decide))⟩
  · obtain ⟨b1, b2, b3⟩ := w5
    unfold WTy GaF
    rw [un_e (hU 17 (by decide)), un_e (hU 15 (by decide)), un_e (hU 44 (by decide)), un_e (hU 38 (by decide)), un_e (hU 39 (by decide)), un_e (hU 40 (by decide)), un_e (hU 41 (by decide)), un_e (hU 42 (by decide)), un_e (hU 43 (by decide)), e51, un_e (hU 47 (by decide)), un_e (hU 48 (by decide))]
    refine ⟨fun j hj => (congrFun (f.i (n _ (lv_l hj) (by omega) (by omega))) 1).trans (b1 j hj), fun g hg => ?_, fun j hj => ?_⟩
    · rw [show mI (wL (wI M (yO α k) 3 (nI 1)) (hO α p 0) 9 (mL M (hO α p 0) 9 - τ.2 49 k)) (aO α g 0) = mI M (aO α g 0) from f.i (n _ (lv_a hg (by decide)) (by omega) (by omega))]
      exact b2 g hg
    · obtain ⟨c1, c2, c3, c4⟩ := b3 j hj
      have el : mL (wL (wI M (yO α k) 3 (nI 1)) (hO α p 0) 9 (mL M (hO α p 0) 9 - τ.2 49 k)) (yO α j) = mL M (yO α j) := wL_a (ws.1.ne (lv_y hj) (lv_h hp (by decide)) (by omega))
      rw [u50, el]
      by_cases q : j = k
      · subst q
        rw [if_pos rfl]
        exact ⟨(wI_k (by decide)).trans c1, (wI_k (by decide)).trans c2, c3, wI_i⟩
      · have ei : mI (wL (wI M (yO α k) 3 (nI 1)) (hO α p 0) 9 (mL M (hO α p 0) 9 - τ.2 49 k)) (yO α j) = mI M (yO α j) := wI_a (ws.1.ne (lv_y hj) (lv_y hk) (by omega))
        rw [if_neg q, ei]
        exact ⟨c1, c2, c3, c4⟩
/-- word -/
theorem EtA.q {τ : Mu} {α : Nat → Nat} : QA τ α (EtA α) := fun a h => by
  obtain ⟨o, h1, h2⟩ := h
  refine ⟨4 + o, lv_s (by omega), .inl ⟨by omega, ?_, fun r hr => by omega⟩, h2⟩
  rintro (z | z | z | ⟨q, o, h1, h2, h3, z⟩) <;> omega
theorem wd_w {τ : Mu} {G : gW} {α : Nat → Nat} {M M1 : Mem} {w : Nat} {y : Int32} (hw : WF τ) (ws : WS τ G α M) (wt : WT τ α M) (wb : WB τ α M) (f : frm (EtA α) M M1) (hE : ElF (wdU τ w y) (mI M1) (eO α)) : WD (wdU τ w y) G α M1 := by
  have hU : ∀ k, k < 22 ∨ 27 < k → (wdU τ w y).1 k = τ.1 k := fun k hk => funext fun x => wdU_o w y x (by omega)
  obtain ⟨ws1, wt1⟩ := el_w hw hU rfl ws wt f hE
  refine ⟨ws1, wt1, WB.vp (fun r hr => ⟨hw, VPc.of fun k hk => hU k (by omega), VPl.of (hU 0 (by omega)) fun k _ hk => hU k (by omega), ⟨?_, fun e he => ⟨?_, ?_, ?_⟩, fun i hi => ⟨?_, ?_⟩⟩, VPt.of (fun k hk _ => hU k (by omega)) (fun m _ => rfl), VPg.of fun k hk _ => hU k (by omega)⟩) (hU 9 (by omega)) (EtA.q.wb hw ws.1 f wb)⟩
  · exact un_cg (wdU_o w y _ (by decide))
  · refine un_cg ?_
    show up2 (up2 (up2 τ.1 22 (60 + un τ 24 6) (nI w)) 23 (60 + un τ 24 6) y) 24 6 (nI (un τ 24 6 + 1)) 24 e = τ.1 24 e
    rw [up2_k _ _ (by omega), up2_row _ _ (by decide), up2_row _ _ (by decide)]
  · exact un_cg (wdU_o w y _ (by decide))
  · exact un_cg (wdU_o w y _ (by decide))
  · refine un_cg ?_
    show up2 (up2 (up2 τ.1 22 (60 + un τ 24 6) (nI w)) 23 (60 + un τ 24 6) y) 24 6 (nI (un τ 24 6 + 1)) 22 i = τ.1 22 i
    rw [up2_row _ _ (by decide), up2_row _ _ (by decide), up2_k _ _ (by omega)]
  · show up2 (up2 (up2 τ.1 22 (60 + un τ 24 6) (nI w)) 23 (60 + un τ 24 6) y) 24 6 (nI (un τ 24 6 + 1)) 23 i = τ.1 23 i
    rw [up2_row _ _ (by decide), up2_k _ _ (by omega), up2_row _ _ (by decide)]
theorem wd_B {τ : Mu} {w : Nat} {x : Int32} (e : x = nI w) (h : w < 10) (h10 : un τ 24 6 ≤ 10) : decide (un τ 24 6 < 10 ∧ (w < 4 ∨ 2 ≤ fmD τ 6 (un τ 24 6))) = wdB τ x := by
  unfold wdB
  rw [e, Bool.eq_iff_iff, Bool.and_eq_true, Bool.or_eq_true, decide_eq_true_iff, decide_eq_true_iff, decide_eq_true_iff, decide_eq_true_iff, Int32.le_iff_toInt_le, nI_toInt (by omega), nI_toInt (by decide)]
  omega
theorem wd_h {τ : Mu} {w : Nat} {x : Int32} (e : x = nI w) (h : w < 10) (h10 : un τ 24 6 ≤ 10) (q : wdB τ x = true) : un τ 24 6 < 10 ∧ (w < 4 ∨ 2 ≤ fmD τ 6 (un τ 24 6)) := by
  rw [← wd_B e h h10] at q
  exact of_decide_eq_true q
theorem wd_y {w : Nat} {x y : Int32} (e : x = nI w) (h : (decide (x ≠ nI 2) || inB y (lN 0) (lN 5)) = true) (q : w = 2) : y = nI y.toNatClampNeg ∧ y.toNatClampNeg < 6 := by
  rw [e, q, show decide (nI 2 ≠ nI 2) = false from by decide, Bool.false_or] at h
  obtain ⟨b, _, h2, rfl⟩ := inB_N (by decide) (by decide) h
  rw [nI_clamp (by omega)]
  exact ⟨rfl, by omega⟩
set_option maxHeartbeats 1000000 in
set_option maxRecDepth 100000 in
theorem c_X11_advance (l : Launch) (hfl : l.flags = flags0) (G : gW) (M : Mem) (τ : Mu) (hw : WF τ) (α : Nat → Nat) (hws : WS τ G α M) (hwt : WT τ α M) (hwb : WB τ α M) (had : ∀ p, p < 6 → AD τ p) (x y : Int32) : CX l yX11_advance cX11_advance 4 (some .long) 7 3 18 102 G M [.ref (α 0), .int x, .int y] (fun v M' => PC τ G α M (cd3 (rng x 6) (inB y (lN 1) (lN 1000000)) (decide (un τ 46 46 ≠ 24))) (sL τ 45 (24 * x.toNatClampNeg + un τ 46 46) (τ.2 45 (24 * x.toNatClampNeg + un τ 46 46) + y.toInt64)) (some (.long (sumL (fun m => (sL τ 45 (24 * x.toNatClampNeg + un τ 46 46) (τ.2 45 (24 * x.toNatClampNeg + un τ 46 46) + y.toInt64)).2 45 (24 * x.toNatClampNeg + m)) 24))) v M') (fun E M' => XP M (cd3 (rng x 6) (inB y (lN 1) (lN 1000000)) (decide (un τ 46 46 ≠ 24))) ["java/lang/IndexOutOfBoundsException", "java/lang/IllegalArgumentException", "java/lang/IllegalStateException"] E M') := by
  refine CX.of hfl rfl (Nat.le_of_ble_eq_true rfl) ?_
  intro pp ee ss mm ar bw mt cd C hgX hr hno
  have hx := hws.2.1
  have hwx := hwt.2.2.2.1
  have h9 := hw.nc.2
  have h13 := hw.sh.2
  have h17 := hw.nl.2
  have h26 := hw.ne.2
  have h44 := hw.ng.2
  have h46 := hw.op.2
  have h51 := hw.np.2
  refine V.eLo (lo' := [(0, .ref (α 0)), (1, .int x), (2, .int y)]) rfl ?_
  refine r_iload_n C 1 dX11_advance_0 rfl rfl ?_
  refine r_callS C hgX ml_X11_45 st_X11_isPerson (c_X11_isPerson l hfl G M x) rfl (Nat.le_of_ble_eq_true rfl) ⟨Nat.le_of_ble_eq_true rfl, Nat.le_of_ble_eq_true rfl⟩ ⟨Nat.le_of_ble_eq_true rfl, Nat.le_of_ble_eq_true rfl⟩ dX11_advance_1 rfl ?_
  rintro _ _ ⟨rfl, rfl⟩
  refine V.eSt (st' := [.int (bI (rng x 6))]) rfl ?_
  refine r_xS C hgX hno ml_X11_55 st_X11_needThere (c_X11_needThere l hfl G M (rng x 6)) rfl (Nat.le_of_ble_eq_true rfl) ⟨Nat.le_of_ble_eq_true rfl, Nat.le_of_ble_eq_true rfl⟩ ⟨Nat.le_of_ble_eq_true rfl, Nat.le_of_ble_eq_true rfl⟩ dX11_advance_4 rfl (fun E_ M_ h_ => x_3a h_) ⟨Nat.le_of_ble_eq_true rfl, Nat.le_of_ble_eq_true rfl⟩ ?_
  rintro _ _ ⟨rfl, rfl, hq1⟩
  have hq := hq1
  refine r_iload_n C 2 dX11_advance_7 rfl rfl ?_
  refine r_iconst C (v := nI 1) dX11_advance_8 (by decide) ?_
  refine r_ldc C (v := 1000000) ki_X11_63 dX11_advance_9 ?_
  refine V.ei (y := nI 1000000) (by decide) ?_
  refine r_callS C hgX ml_X11_59 st_X11_isWithin (c_X11_isWithin l hfl G M y (nI 1) (nI 1000000)) rfl (Nat.le_of_ble_eq_true rfl) ⟨Nat.le_of_ble_eq_true rfl, Nat.le_of_ble_eq_true rfl⟩ ⟨Nat.le_of_ble_eq_true rfl, Nat.le_of_ble_eq_true rfl⟩ dX11_advance_11 rfl ?_
  rintro _ _ ⟨rfl, rfl⟩
  refine V.eSt (st' := [.int (bI (inB y (nI 1).toInt64 (nI 1000000).toInt64))]) rfl ?_
  refine V.ei (y := bI (inB y (lN 1) (lN 1000000))) rfl ?_
  refine r_xS C hgX hno ml_X11_64 st_X11_needFitting (c_X11_needFitting l hfl G M (inB y (lN 1) (lN 1000000))) rfl (Nat.le_of_ble_eq_true rfl) ⟨Nat.le_of_ble_eq_true rfl, Nat.le_of_ble_eq_true rfl⟩ ⟨Nat.le_of_ble_eq_true rfl, Nat.le_of_ble_eq_true rfl⟩ dX11_advance_14 rfl (fun E_ M_ h_ => x_3b hq h_) ⟨Nat.le_of_ble_eq_true rfl, Nat.le_of_ble_eq_true rfl⟩ ?_
  rintro _ _ ⟨rfl, rfl, hq2⟩
  have hq2 := hq2
  refine r_aload_n C 0 dX11_advance_17 rfl rfl ?_
  refine r_getI C fl_X11_295 rfl (hx.k 0 14 rfl) dX11_advance_18 ?_
  refine V.ei (y := nI (un τ 46 46)) (hwx.2.2.2.2.2.1) ?_
  refine r_callS C hgX ml_X11_141 st_X11_isMonth (c_X11_isMonth l hfl G M (nI (un τ 46 46))) rfl (Nat.le_of_ble_eq_true rfl) ⟨Nat.le_of_ble_eq_true rfl, Nat.le_of_ble_eq_true rfl⟩ ⟨Nat.le_of_ble_eq_true rfl, Nat.le_of_ble_eq_true rfl⟩ dX11_advance_21 rfl ?_
  rintro _ _ ⟨rfl, rfl⟩
  refine V.eSt (st' := [.int (bI (rng (nI (un τ 46 46)) 24))]) rfl ?_
  refine V.ei (y := bI (decide (un τ 46 46 ≠ 24))) (congrArg bI (op_r (by omega))) ?_
  refine r_xS C hgX hno ml_X11_71 st_X11_needAllowed (c_X11_needAllowed l hfl G M (decide (un τ 46 46 ≠ 24))) rfl (Nat.le_of_ble_eq_true rfl) ⟨Nat.le_of_ble_eq_true rfl, Nat.le_of_ble_eq_true rfl⟩ ⟨Nat.le_of_ble_eq_true rfl, Nat.le_of_ble_eq_true rfl⟩ dX11_advance_24 rfl (fun E_ M_ h_ => x_3c hq hq2 h_) ⟨Nat.le_of_ble_eq_true rfl, Nat.le_of_ble_eq_true rfl⟩ ?_
  rintro _ _ ⟨rfl, rfl, hq3⟩
  have hq3 := hq3
  obtain ⟨c, hc, e_x⟩ := rng_t hq
  have he : un τ 46 46 < 24 := by have := of_decide_eq_true hq3; omega
  have hbp := (hws.2.2.1 c hc).1
  have hbk := hws.bk hc
  have ec : x.toNatClampNeg = c := by rw [e_x]; exact nI_clamp (by omega)
  refine V.eLo (lo' := [(0, .ref (α 0)), (1, .int (nI c)), (2, .int y)]) (by rw [e_x]) ?_
  refine r_aload_n C 0 dX11_advance_27 rfl rfl ?_
  refine r_getR C (b := (α 2)) fl_X11_18 rfl (hx.k 0 14 rfl) (hx.r 0 1 2 rfl) dX11_advance_28 ?_
  refine r_iload_n C 1 dX11_advance_31 rfl rfl ?_
  refine r_aaloadN C (b := (hO α c 0)) 1 (by decide) (hx.k 2 24 rfl) (hx.n 2 6 rfl) (by omega) (by omega) (hws.2.2.1 c (by omega)).2 dX11_advance_32 ?_
  refine r_astore_n C (lo' := [(3, .ref (hO α c 0)), (0, .ref (α 0)), (1, .int (nI c)), (2, .int y)]) dX11_advance_33 rfl (by decide) rfl ?_
  refine r_aload_n C 0 dX11_advance_34 rfl rfl ?_
  refine r_getR C (b := (hO α c 14)) fl_X11_298 rfl (hbp.k 0 11 rfl) (hbp.r 0 7 14 rfl) dX11_advance_35 ?_
  refine r_aload_n C 1 dX11_advance_38 rfl rfl ?_
  refine r_getI C fl_X11_295 rfl (hx.k 0 14 rfl) dX11_advance_39 ?_
  refine V.ei (y := nI (un τ 46 46)) (hwx.2.2.2.2.2.1) ?_
  refine r_dup2 C dX11_advance_42 rfl rfl ?_
  refine r_laloadN C (hbp.k 14 21 rfl) (hbp.n 14 24 rfl) (by omega) (by omega) dX11_advance_43 ?_
  refine V.el (y := τ.2 45 (24 * c + un τ 46 46)) ((hwt.2.1 c hc).2.2.2.2.1 _ he) ?_
  refine r_iload_n C 3 dX11_advance_44 rfl rfl ?_
  refine r_i2l C dX11_advance_45 ?_
  refine r_ladd C dX11_advance_46 ?_
  refine r_lastoreN C (hbp.k 14 21 rfl) (hbp.n 14 24 rfl) (by omega) (by omega) dX11_advance_47 ?_
  refine r_aload_n C 0 dX11_advance_48 rfl rfl ?_
  refine r_dup C dX11_advance_49 rfl ?_
  refine r_getL C fl_X11_301 rfl (hbp.k 0 11 rfl) dX11_advance_50 ?_
  refine V.el (y := sumL (fun k => τ.2 45 (24 * c + k)) 24) ((congrFun (wL_a (hbp.ne 0 14 rfl)) 8).trans (hwt.2.1 c hc).2.2.2.2.2.1) ?_
  refine r_iload_n C 3 dX11_advance_53 rfl rfl ?_
  refine r_i2l C dX11_advance_54 ?_
  refine r_ladd C dX11_advance_55 ?_
  refine r_putL C fl_X11_301 (hbp.k 0 11 rfl) dX11_advance_56 ?_
  refine r_aload_n C 0 dX11_advance_59 rfl rfl ?_
  refine r_getR C (b := (bO α c 0)) fl_X11_94 rfl (hbp.k 0 11 rfl) (hbp.r 0 10 15 rfl) dX11_advance_60 ?_
  refine r_iconst C (v := nI 1) dX11_advance_63 (by decide) ?_
  refine r_putZ C fl_X11_98 (by decide) (hbk.k 0 4 rfl) dX11_advance_64 ?_
  refine r_aload_n C 0 dX11_advance_67 rfl rfl ?_
  refine r_getL C fl_X11_301 rfl (hbp.k 0 11 rfl) dX11_advance_68 ?_
  refine V.el (y := sumL (fun k => τ.2 45 (24 * c + k)) 24 + y.toInt64) (wL_i) ?_
  refine V.xret ?_
  exact r_lret C hr (⟨k_3 hq hq2 hq3, by rw [ec]; exact congrArg (fun z => some (Value.long z)) (sumL_ad (f := fun k => (sL τ 45 (24 * c + un τ 46 46) (τ.2 45 (24 * c + un τ 46 46) + y.toInt64)).2 45 (24 * c + k)) sL_s (fun m hm => sL_k (by omega)) 24 he).symm, α, by rw [ec]; exact aw_w hc he hw hws hwt hwb, rfl, CF.tr2 (((frm.rf (PtB α c) M).wl (b := hO α c 14) (un τ 46 46) (τ.2 45 (24 * c + un τ 46 46) + y.toInt64) ⟨14, by decide, by decide, rfl⟩).wl (b := hO α c 0) 8 (sumL (fun k => τ.2 45 (24 * c + k)) 24 + y.toInt64) ⟨0, by decide, by decide, rfl⟩) ((frm.rf (fun y => y = bO α c 0) _).wi 0 (nI 1) rfl) (fun a h => PtB.lv hc h) (fun a h => ⟨_, lv_b hc (show 0 < 42 by decide), h⟩), fun _ _ hz_ k_ hk_ => hz_ k_ (LV.u rfl rfl rfl rfl hk_)⟩) (by first | exact Nat.zero_le _ | decide) (by first | exact Nat.zero_le _ | decide) dX11_advance_71
set_option maxHeartbeats 1000000 in
set_option maxRecDepth 100000 in
theorem c_X11_comeBack (l : Launch) (hfl : l.flags = flags0) (G : gW) (M : Mem) (τ : Mu) (hw : WF τ) (α : Nat → Nat) (hws : WS τ G α M) (hwt : WT τ α M) (hwb : WB τ α M) (had : ∀ p, p < 6 → AD τ p) (x : Int32) : CX l yX11_comeBack cX11_comeBack 3 (some .long) 7 2 12 102 G M [.ref (α 0), .int x] (fun v M' => PC τ G α M (cd2 (rng x (un τ 51 51)) (decide (un τ 50 x.toNatClampNeg ≠ 1))) (sI τ 50 x.toNatClampNeg (nI 1)) (some (.long (τ.2 49 x.toNatClampNeg))) v M') (fun E M' => XP M (cd2 (rng x (un τ 51 51)) (decide (un τ 50 x.toNatClampNeg ≠ 1))) ["java/lang/IndexOutOfBoundsException", "java/lang/IllegalStateException"] E M') := by
  refine CX.of hfl rfl (Nat.le_of_ble_eq_true rfl) ?_
  intro pp ee ss mm ar bw mt cd C hgX hr hno
  have hx := hws.2.1
  have hwx := hwt.2.2.2.1
  have h9 := hw.nc.2
  have h13 := hw.sh.2
  have h17 := hw.nl.2
  have h26 := hw.ne.2
  have h44 := hw.ng.2
  have h46 := hw.op.2
  have h51 := hw.np.2
  refine V.eLo (lo' := [(0, .ref (α 0)), (1, .int x)]) rfl ?_
  refine r_aload_n C 0 dX11_comeBack_0 rfl rfl ?_
  refine r_iload_n C 1 dX11_comeBack_1 rfl rfl ?_
  refine r_callV C hgX (ci := 13) ml_X11_312 im_X11_isPayment se_X11_isPayment rfl rfl (hx.k 0 14 rfl) (c_X11_isPayment l hfl G M τ hw α hws hwt hwb had x) rfl (Nat.le_of_ble_eq_true rfl) ⟨Nat.le_of_ble_eq_true rfl, Nat.le_of_ble_eq_true rfl⟩ ⟨Nat.le_of_ble_eq_true rfl, Nat.le_of_ble_eq_true rfl⟩ dX11_comeBack_2 rfl ?_
  rintro _ _ ⟨rfl, rfl⟩
  refine V.eSt (st' := [.int (bI (rng x (un τ 51 51)))]) rfl ?_
  refine r_xS C hgX hno ml_X11_55 st_X11_needThere (c_X11_needThere l hfl G M (rng x (un τ 51 51))) rfl (Nat.le_of_ble_eq_true rfl) ⟨Nat.le_of_ble_eq_true rfl, Nat.le_of_ble_eq_true rfl⟩ ⟨Nat.le_of_ble_eq_true rfl, Nat.le_of_ble_eq_true rfl⟩ dX11_comeBack_5 rfl (fun E_ M_ h_ => x_2a h_) ⟨Nat.le_of_ble_eq_true rfl, Nat.le_of_ble_eq_true rfl⟩ ?_
  rintro _ _ ⟨rfl, rfl, hq1⟩
  have hq := hq1
  obtain ⟨c, hc, e_x⟩ := rng_t hq
  have hyt := hwt.2.2.2.2.2.2 c hc
  have hpc : un τ 47 c < 6 := by have := (hw.pw c hc).2; omega
  have hbp := (hws.2.2.1 _ hpc).1
  have ec : x.toNatClampNeg = c := by rw [e_x]; exact nI_clamp (by omega)
  refine V.eLo (lo' := [(0, .ref (α 0)), (1, .int (nI c))]) (by rw [e_x]) ?_
  refine r_aload_n C 0 dX11_comeBack_8 rfl rfl ?_
  refine r_getR C (b := (α 28)) fl_X11_38 rfl (hx.k 0 14 rfl) (hx.r 0 5 28 rfl) dX11_comeBack_9 ?_
  refine r_iload_n C 1 dX11_comeBack_12 rfl rfl ?_
  obtain ⟨d_, hd_, hkd_, hsn_, hn_, hri_⟩ := (hws.2.2.2.2.2.2.2.2.2.2.1).get (i := c) (by omega)
  refine r_callV C hgX (ci := 2) ml_X11_107 im_Jx4a65c_get_915e3 se_Jx4a65c_get_915e3 rfl rfl (hx.k 28 3 rfl) (c_Jx4a65c_get_915e3 l hfl G M (α 28) d_ _ c (yO α c) (un τ 51 51) (hws.2.2.2.2.2.2.2.2.2.2.1).1 hd_ (hws.2.2.2.2.2.2.2.2.2.2.1).2.1 hkd_ rfl hn_ hsn_ (by omega) hri_) rfl (Nat.le_of_ble_eq_true rfl) ⟨Nat.le_of_ble_eq_true rfl, Nat.le_of_ble_eq_true rfl⟩ ⟨Nat.le_of_ble_eq_true rfl, Nat.le_of_ble_eq_true rfl⟩ dX11_comeBack_13 rfl ?_
  rintro _ _ ⟨rfl, rfl⟩
  refine V.eSt (st' := [.ref (yO α c)]) rfl ?_
  refine r_cast C (ci := 9) rfl cl_X11_315 ((hws.2.2.2.2.2.2.2.1 c hc)) dX11_comeBack_16 ?_
  refine r_astore_n C (lo' := [(2, .ref (yO α c)), (0, .ref (α 0)), (1, .int (nI c))]) dX11_comeBack_19 rfl (by decide) rfl ?_
  have jn32 : V pp l ee ({ frames := 7, cells := 2, slots := 12, locals := 102 } : Room) ss mm ar bw mt cd G (vx_MQ bw (Ke G (fun v M' => PC τ G α M (cd2 (rng x (un τ 51 51)) (decide (un τ 50 x.toNatClampNeg ≠ 1))) (sI τ 50 x.toNatClampNeg (nI 1)) (some (.long (τ.2 49 x.toNatClampNeg))) v M')) (Kx G (fun E M' => XP M (cd2 (rng x (un τ 51 51)) (decide (un τ 50 x.toNatClampNeg ≠ 1))) ["java/lang/IndexOutOfBoundsException", "java/lang/IllegalStateException"] E M')) ar ss 2 12 (gA G)) 3 M 1 6 32 [(2, .ref (yO α c)), (0, .ref (α 0)), (1, .int (nI c))] [.int (bI (decide (un τ 50 c ≠ 1)))] := by
    skip
    refine r_xS C hgX hno ml_X11_71 st_X11_needAllowed (c_X11_needAllowed l hfl G M (decide (un τ 50 c ≠ 1))) rfl (Nat.le_of_ble_eq_true rfl) ⟨Nat.le_of_ble_eq_true rfl, Nat.le_of_ble_eq_true rfl⟩ ⟨Nat.le_of_ble_eq_true rfl, Nat.le_of_ble_eq_true rfl⟩ dX11_comeBack_32 rfl (fun E_ M_ h_ => by rw [ec]; exact x_2b hq h_) ⟨Nat.le_of_ble_eq_true rfl, Nat.le_of_ble_eq_true rfl⟩ ?_
    rintro _ _ ⟨rfl, rfl, hq3⟩
    have hq2 := hq3
    have h50 : un τ 50 c = 0 := by have := of_decide_eq_true hq2; have := (hw.pb c hc).2; omega
    refine r_aload_n C 0 dX11_comeBack_35 rfl rfl ?_
    refine r_iconst C (v := nI 1) dX11_comeBack_36 (by decide) ?_
    refine r_putZ C fl_X11_324 (by decide) (hws.2.2.2.2.2.2.2.1 c hc) dX11_comeBack_37 ?_
    refine r_aload_n C 1 dX11_comeBack_40 rfl rfl ?_
    refine r_getR C (b := (α 2)) fl_X11_18 rfl (hx.k 0 14 rfl) (hx.r 0 1 2 rfl) dX11_comeBack_41 ?_
    refine r_aload_n C 0 dX11_comeBack_44 rfl rfl ?_
    refine r_getI C fl_X11_317 rfl (hws.2.2.2.2.2.2.2.1 c hc) dX11_comeBack_45 ?_
    refine V.ei (y := nI (un τ 47 c)) ((wI_k (by decide)).trans hyt.1) ?_
    refine r_aaloadN C (b := (hO α (un τ 47 c) 0)) 1 (by decide) (hx.k 2 24 rfl) (hx.n 2 6 rfl) (by omega) (by omega) (hws.2.2.1 (un τ 47 c) (by omega)).2 dX11_comeBack_48 ?_
    refine r_dup C dX11_comeBack_49 rfl ?_
    refine r_getL C fl_X11_327 rfl (hbp.k 0 11 rfl) dX11_comeBack_50 ?_
    refine V.el (y := mL M (hO α (un τ 47 c) 0) 9) (rfl) ?_
    refine r_aload_n C 0 dX11_comeBack_53 rfl rfl ?_
    refine r_getL C fl_X11_321 rfl (hws.2.2.2.2.2.2.2.1 c hc) dX11_comeBack_54 ?_
    refine V.el (y := τ.2 49 c) (hyt.2.2.1) ?_
    refine r_lsub C dX11_comeBack_57 ?_
    refine r_putL C fl_X11_327 (hbp.k 0 11 rfl) dX11_comeBack_58 ?_
    refine r_aload_n C 0 dX11_comeBack_61 rfl rfl ?_
    refine r_getL C fl_X11_321 rfl (hws.2.2.2.2.2.2.2.1 c hc) dX11_comeBack_62 ?_
    refine V.el (y := τ.2 49 c) ((congrFun (wL_a (hws.1.ne (lv_y hc) (lv_h hpc (by decide)) (by omega))) 2).trans hyt.2.2.1) ?_
    refine V.xret ?_
    exact r_lret C hr (⟨by rw [ec]; exact k_2 hq hq2, by rw [ec], α, by rw [ec]; exact cm_w hc h50 hw hws hwt hwb, rfl, CF.tr2 ((frm.rf (fun a => a = yO α c) M).wi 3 (nI 1) rfl) ((frm.rf (fun a => a = hO α (un τ 47 c) 0) _).wl 9 _ rfl) (fun a h => ⟨_, lv_y hc, h⟩) (fun a h => ⟨_, lv_h hpc (show 0 < 57 by decide), h⟩), fun _ _ hz_ k_ hk_ => hz_ k_ (LV.u rfl rfl rfl rfl hk_)⟩) (by first | exact Nat.zero_le _ | decide) (by first | exact Nat.zero_le _ | decide) dX11_comeBack_65
  refine r_aload_n C 0 dX11_comeBack_20 rfl rfl ?_
  refine r_getI C fl_X11_324 rfl (hws.2.2.2.2.2.2.2.1 c hc) dX11_comeBack_21 ?_
  refine V.ei (y := bI (decide (un τ 50 c = 1))) (hyt.2.2.2) ?_
  refine r_if_neB C (t := 31) dX11_comeBack_24 (by decide) (fun c24 => ?_) (fun c24 => ?_)
  · skip
    have c24d := of_decide_eq_true c24
    refine r_iconst C (v := nI 0) dX11_comeBack_31 (by decide) ?_
    refine V.eSt (st' := [.int (bI false)]) rfl ?_
    refine V.ei (y := bI (decide (un τ 50 c ≠ 1))) (congrArg bI (by have q := c24; simp at q; simp [q])) ?_
    exact jn32
  · skip
    have c24d := of_decide_eq_false c24
    refine r_iconst C (v := nI 1) dX11_comeBack_27 (by decide) ?_
    refine r_goto C (t := 32) dX11_comeBack_28 (by decide) ?_
    refine V.eSt (st' := [.int (bI true)]) rfl ?_
    refine V.ei (y := bI (decide (un τ 50 c ≠ 1))) (congrArg bI (by have q := c24; simp at q; simp [q])) ?_
    exact jn32
set_option maxHeartbeats 1000000 in
set_option maxRecDepth 100000 in
theorem c_X11_word (l : Launch) (hfl : l.flags = flags0) (G : gW) (M : Mem) (τ : Mu) (hw : WF τ) (α : Nat → Nat) (hws : WS τ G α M) (hwt : WT τ α M) (hwb : WB τ α M) (had : ∀ p, p < 6 → AD τ p) (x y : Int32) : CX l yX11_word cX11_word 3 (some .int) 7 4 24 102 G M [.ref (α 0), .int x, .int y] (fun v M' => PC τ G α M (cd2 (inB x (lN 0) (lN 9) && (decide (x ≠ nI 2) || inB y (lN 0) (lN 5)) && (decide (x ≠ nI 3) || inB y (-1000000) (lN 1000000))) (wdB τ x)) (sI (sI (sI τ 22 (60 + un τ 24 6) x) 23 (60 + un τ 24 6) y) 24 6 (nI (un τ 24 6 + 1))) (some (.int (nI (un τ 24 6 + 1)))) v M') (fun E M' => XP M (cd2 (inB x (lN 0) (lN 9) && (decide (x ≠ nI 2) || inB y (lN 0) (lN 5)) && (decide (x ≠ nI 3) || inB y (-1000000) (lN 1000000))) (wdB τ x)) ["java/lang/IllegalArgumentException", "java/lang/IllegalStateException"] E M') := by
  refine CX.of hfl rfl (Nat.le_of_ble_eq_true rfl) ?_
  intro pp ee ss mm ar bw mt cd C hgX hr hno
  have hx := hws.2.1
  have hwx := hwt.2.2.2.1
  have h9 := hw.nc.2
  have h13 := hw.sh.2
  have h17 := hw.nl.2
  have h26 := hw.ne.2
  have h44 := hw.ng.2
  have h46 := hw.op.2
  have h51 := hw.np.2
  have hel := hws.el
  have hef := hwx.2.2.2.2.2.2
  have hfd := fmD_le τ 6 (un τ 24 6)
  have h246 := (hw.el 6 (by decide)).2
  refine V.eLo (lo' := [(0, .ref (α 0)), (1, .int x), (2, .int y)]) rfl ?_
  refine r_iload_n C 1 dX11_word_0 rfl rfl ?_
  refine r_iconst C (v := nI 0) dX11_word_1 (by decide) ?_
  refine r_bipush C (v := nI 9) dX11_word_2 (by decide) ?_
  refine r_callS C hgX ml_X11_59 st_X11_isWithin (c_X11_isWithin l hfl G M x (nI 0) (nI 9)) rfl (Nat.le_of_ble_eq_true rfl) ⟨Nat.le_of_ble_eq_true rfl, Nat.le_of_ble_eq_true rfl⟩ ⟨Nat.le_of_ble_eq_true rfl, Nat.le_of_ble_eq_true rfl⟩ dX11_word_4 rfl ?_
  rintro _ _ ⟨rfl, rfl⟩
  refine V.eSt (st' := [.int (bI (inB x (nI 0).toInt64 (nI 9).toInt64))]) rfl ?_
  refine V.ei (y := bI (inB x (lN 0) (lN 9))) rfl ?_
  refine r_xS C hgX hno ml_X11_64 st_X11_needFitting (c_X11_needFitting l hfl G M (inB x (lN 0) (lN 9))) rfl (Nat.le_of_ble_eq_true rfl) ⟨Nat.le_of_ble_eq_true rfl, Nat.le_of_ble_eq_true rfl⟩ ⟨Nat.le_of_ble_eq_true rfl, Nat.le_of_ble_eq_true rfl⟩ dX11_word_7 rfl (fun E_ M_ h_ => x_2a ⟨by rw [h_.1]; rfl, h_.2⟩) ⟨Nat.le_of_ble_eq_true rfl, Nat.le_of_ble_eq_true rfl⟩ ?_
  rintro _ _ ⟨rfl, rfl, hq1⟩
  have hq := hq1
  have jn29 : V pp l ee ({ frames := 7, cells := 4, slots := 24, locals := 102 } : Room) ss mm ar bw mt cd G (vx_MQ bw (Ke G (fun v M' => PC τ G α M (cd2 (inB x (lN 0) (lN 9) && (decide (x ≠ nI 2) || inB y (lN 0) (lN 5)) && (decide (x ≠ nI 3) || inB y (-1000000) (lN 1000000))) (wdB τ x)) (sI (sI (sI τ 22 (60 + un τ 24 6) x) 23 (60 + un τ 24 6) y) 24 6 (nI (un τ 24 6 + 1))) (some (.int (nI (un τ 24 6 + 1)))) v M')) (Kx G (fun E M' => XP M (cd2 (inB x (lN 0) (lN 9) && (decide (x ≠ nI 2) || inB y (lN 0) (lN 5)) && (decide (x ≠ nI 3) || inB y (-1000000) (lN 1000000))) (wdB τ x)) ["java/lang/IllegalArgumentException", "java/lang/IllegalStateException"] E M')) ar ss 4 24 (gA G)) 3 M 1 6 29 [(0, .ref (α 0)), (1, .int x), (2, .int y)] [.int (bI (decide (x ≠ nI 2) || inB y (lN 0) (lN 5)))] := by
    skip
    refine r_xS C hgX hno ml_X11_64 st_X11_needFitting (c_X11_needFitting l hfl G M (decide (x ≠ nI 2) || inB y (lN 0) (lN 5))) rfl (Nat.le_of_ble_eq_true rfl) ⟨Nat.le_of_ble_eq_true rfl, Nat.le_of_ble_eq_true rfl⟩ ⟨Nat.le_of_ble_eq_true rfl, Nat.le_of_ble_eq_true rfl⟩ dX11_word_29 rfl (fun E_ M_ h_ => x_2a ⟨by rw [h_.1, Bool.and_false]; rfl, h_.2⟩) ⟨Nat.le_of_ble_eq_true rfl, Nat.le_of_ble_eq_true rfl⟩ ?_
    rintro _ _ ⟨rfl, rfl, hq2⟩
    have hqb := hq2
    have jn53 : V pp l ee ({ frames := 7, cells := 4, slots := 24, locals := 102 } : Room) ss mm ar bw mt cd G (vx_MQ bw (Ke G (fun v M' => PC τ G α M (cd2 (inB x (lN 0) (lN 9) && (decide (x ≠ nI 2) || inB y (lN 0) (lN 5)) && (decide (x ≠ nI 3) || inB y (-1000000) (lN 1000000))) (wdB τ x)) (sI (sI (sI τ 22 (60 + un τ 24 6) x) 23 (60 + un τ 24 6) y) 24 6 (nI (un τ 24 6 + 1))) (some (.int (nI (un τ 24 6 + 1)))) v M')) (Kx G (fun E M' => XP M (cd2 (inB x (lN 0) (lN 9) && (decide (x ≠ nI 2) || inB y (lN 0) (lN 5)) && (decide (x ≠ nI 3) || inB y (-1000000) (lN 1000000))) (wdB τ x)) ["java/lang/IllegalArgumentException", "java/lang/IllegalStateException"] E M')) ar ss 4 24 (gA G)) 3 M 2 12 53 [(0, .ref (α 0)), (1, .int x), (2, .int y)] [.int (bI (decide (x ≠ nI 3) || inB y (-1000000) (lN 1000000)))] := by
      skip
      refine r_xS C hgX hno ml_X11_64 st_X11_needFitting (c_X11_needFitting l hfl G M (decide (x ≠ nI 3) || inB y (-1000000) (lN 1000000))) rfl (Nat.le_of_ble_eq_true rfl) ⟨Nat.le_of_ble_eq_true rfl, Nat.le_of_ble_eq_true rfl⟩ ⟨Nat.le_of_ble_eq_true rfl, Nat.le_of_ble_eq_true rfl⟩ dX11_word_53 rfl (fun E_ M_ h_ => x_2a ⟨by rw [h_.1, Bool.and_false], h_.2⟩) ⟨Nat.le_of_ble_eq_true rfl, Nat.le_of_ble_eq_true rfl⟩ ?_
      rintro _ _ ⟨rfl, rfl, hq3⟩
      have hqc := hq3
      obtain ⟨c, hc0, hc9, e_x⟩ := inB_N (by decide) (by decide) hq
      have hqA : (inB x (lN 0) (lN 9) && (decide (x ≠ nI 2) || inB y (lN 0) (lN 5)) && (decide (x ≠ nI 3) || inB y (-1000000) (lN 1000000))) = true := by rw [hq, hqb, hqc]; rfl
      refine V.eLo (lo' := [(0, .ref (α 0)), (1, .int (nI c)), (2, .int y)]) (by rw [e_x]) ?_
      refine r_aload_n C 0 dX11_word_56 rfl rfl ?_
      refine r_getR C (b := (eO α 0)) fl_X11_31 rfl (hx.k 0 14 rfl) (hx.r 0 3 4 rfl) dX11_word_57 ?_
      refine r_iload_n C 1 dX11_word_60 rfl rfl ?_
      refine r_callV C hgX (ci := 6) ml_X11_184 im_X4_takesWord se_X4_takesWord rfl rfl (hel.k 0 7 rfl) (c_X4_takesWord l hfl G M (eO α) hel τ hw hef c (by omega)) rfl (Nat.le_of_ble_eq_true rfl) ⟨Nat.le_of_ble_eq_true rfl, Nat.le_of_ble_eq_true rfl⟩ ⟨Nat.le_of_ble_eq_true rfl, Nat.le_of_ble_eq_true rfl⟩ dX11_word_61 rfl ?_
      rintro _ _ ⟨rfl, rfl⟩
      refine V.eSt (st' := [.int (bI (decide (un τ 24 6 < 10 ∧ (c < 4 ∨ 2 ≤ fmD τ 6 (un τ 24 6)))))]) rfl ?_
      refine V.ei (y := bI (wdB τ x)) (congrArg bI (wd_B e_x (by omega) h246)) ?_
      refine r_xS C hgX hno ml_X11_71 st_X11_needAllowed (c_X11_needAllowed l hfl G M (wdB τ x)) rfl (Nat.le_of_ble_eq_true rfl) ⟨Nat.le_of_ble_eq_true rfl, Nat.le_of_ble_eq_true rfl⟩ ⟨Nat.le_of_ble_eq_true rfl, Nat.le_of_ble_eq_true rfl⟩ dX11_word_64 rfl (fun E_ M_ h_ => x_2b hqA h_) ⟨Nat.le_of_ble_eq_true rfl, Nat.le_of_ble_eq_true rfl⟩ ?_
      rintro _ _ ⟨rfl, rfl, hq4⟩
      have hq2 := hq4
      have hwh := wd_h e_x (by omega) h246 hq2
      refine r_aload_n C 0 dX11_word_67 rfl rfl ?_
      refine r_getR C (b := (eO α 0)) fl_X11_31 rfl (hx.k 0 14 rfl) (hx.r 0 3 4 rfl) dX11_word_68 ?_
      refine r_iload_n C 1 dX11_word_71 rfl rfl ?_
      refine r_iload_n C 2 dX11_word_72 rfl rfl ?_
      refine r_callV C hgX (ci := 6) ml_X11_187 im_X4_putWord se_X4_putWord rfl rfl (hel.k 0 7 rfl) (c_X4_putWord l hfl G M (eO α) hel τ hw hef c y.toNatClampNeg y (by omega) (by omega) (fun q => wd_y e_x hqb q) (hwh.2)) rfl (Nat.le_of_ble_eq_true rfl) ⟨Nat.le_of_ble_eq_true rfl, Nat.le_of_ble_eq_true rfl⟩ ⟨Nat.le_of_ble_eq_true rfl, Nat.le_of_ble_eq_true rfl⟩ dX11_word_73 rfl ?_
      rintro _ My5 ⟨rfl, hfm5, hel5⟩
      refine V.eSt (st' := [.int (nI (un τ 24 6 + 1))]) rfl ?_
      have hfe : frm (EtA α) M My5 := hfm5.mono (fun a h => by rcases h with h | h | h | h | h; exact ⟨0, by omega, h⟩; exact ⟨8, by omega, h⟩; exact ⟨16, by omega, h⟩; exact ⟨17, by omega, h⟩; exact ⟨18, by omega, h⟩)
      refine V.xret ?_
      exact r_iret C hr (⟨k_2 hqA hq2, rfl, α, by rw [e_x]; exact wd_w hw hws hwt hwb hfe hel5, rfl, CF.tr2 hfe (frm.rf (EtA α) _) (fun a h => EtA.lv h) (fun a h => EtA.lv h), fun _ _ hz_ k_ hk_ => hz_ k_ (LV.u rfl rfl rfl rfl hk_)⟩) (by first | exact Nat.zero_le _ | decide) (by first | exact Nat.zero_le _ | decide) dX11_word_76
    refine r_iload_n C 1 dX11_word_32 rfl rfl ?_
    refine r_iconst C (v := nI 3) dX11_word_33 (by decide) ?_
    refine r_icmp_ne C (t := 48) dX11_word_34 (by decide) (fun c34 => ?_) (fun c34 => ?_)
    · skip
      refine r_iconst C (v := nI 1) dX11_word_48 (by decide) ?_
      refine r_goto C (t := 53) dX11_word_49 (by decide) ?_
      refine V.eSt (st' := [.int (bI true)]) rfl ?_
      refine V.ei (y := bI (decide (x ≠ nI 3) || inB y (-1000000) (lN 1000000))) (congrArg bI (by simp [c34])) ?_
      exact jn53
    · skip
      refine r_iload_n C 2 dX11_word_37 rfl rfl ?_
      refine r_ldc C (v := (-1000000)) ki_X11_183 dX11_word_38 ?_
      refine r_ldc C (v := 1000000) ki_X11_63 dX11_word_40 ?_
      refine V.ei (y := nI 1000000) (by decide) ?_
      refine r_callS C hgX ml_X11_59 st_X11_isWithin (c_X11_isWithin l hfl G M y (-1000000) (nI 1000000)) rfl (Nat.le_of_ble_eq_true rfl) ⟨Nat.le_of_ble_eq_true rfl, Nat.le_of_ble_eq_true rfl⟩ ⟨Nat.le_of_ble_eq_true rfl, Nat.le_of_ble_eq_true rfl⟩ dX11_word_42 rfl ?_
      rintro _ _ ⟨rfl, rfl⟩
      refine V.eSt (st' := [.int (bI (inB y ((-1000000)).toInt64 (nI 1000000).toInt64))]) rfl ?_
      refine V.ei (y := bI (inB y (-1000000) (lN 1000000))) rfl ?_
      refine r_if_eqB C (t := 52) dX11_word_45 (by decide) (fun c45 => ?_) (fun c45 => ?_)
      · skip
        refine r_iconst C (v := nI 0) dX11_word_52 (by decide) ?_
        refine V.eSt (st' := [.int (bI false)]) rfl ?_
        refine V.ei (y := bI (decide (x ≠ nI 3) || inB y (-1000000) (lN 1000000))) (congrArg bI (by simp [c34, c45])) ?_
        exact jn53
      · skip
        refine r_iconst C (v := nI 1) dX11_word_48 (by decide) ?_
        refine r_goto C (t := 53) dX11_word_49 (by decide) ?_
        refine V.eSt (st' := [.int (bI true)]) rfl ?_
        refine V.ei (y := bI (decide (x ≠ nI 3) || inB y (-1000000) (lN 1000000))) (congrArg bI (by simp [c34, c45])) ?_
        exact jn53
  refine r_iload_n C 1 dX11_word_10 rfl rfl ?_
  refine r_iconst C (v := nI 2) dX11_word_11 (by decide) ?_
  refine r_icmp_ne C (t := 24) dX11_word_12 (by decide) (fun c12 => ?_) (fun c12 => ?_)
  · skip
    refine r_iconst C (v := nI 1) dX11_word_24 (by decide) ?_
    refine r_goto C (t := 29) dX11_word_25 (by decide) ?_
    refine V.eSt (st' := [.int (bI true)]) rfl ?_
    refine V.ei (y := bI (decide (x ≠ nI 2) || inB y (lN 0) (lN 5))) (congrArg bI (by simp [c12])) ?_
    exact jn29
  · skip
    refine r_iload_n C 2 dX11_word_15 rfl rfl ?_
    refine r_iconst C (v := nI 0) dX11_word_16 (by decide) ?_
    refine r_iconst C (v := nI 5) dX11_word_17 (by decide) ?_
    refine r_callS C hgX ml_X11_59 st_X11_isWithin (c_X11_isWithin l hfl G M y (nI 0) (nI 5)) rfl (Nat.le_of_ble_eq_true rfl) ⟨Nat.le_of_ble_eq_true rfl, Nat.le_of_ble_eq_true rfl⟩ ⟨Nat.le_of_ble_eq_true rfl, Nat.le_of_ble_eq_true rfl⟩ dX11_word_18 rfl ?_
    rintro _ _ ⟨rfl, rfl⟩
    refine V.eSt (st' := [.int (bI (inB y (nI 0).toInt64 (nI 5).toInt64))]) rfl ?_
    refine V.ei (y := bI (inB y (lN 0) (lN 5))) rfl ?_
    refine r_if_eqB C (t := 28) dX11_word_21 (by decide) (fun c21 => ?_) (fun c21 => ?_)
    · skip
      refine r_iconst C (v := nI 0) dX11_word_28 (by decide) ?_
      refine V.eSt (st' := [.int (bI false)]) rfl ?_
      refine V.ei (y := bI (decide (x ≠ nI 2) || inB y (lN 0) (lN 5))) (congrArg bI (by simp [c12, c21])) ?_
      exact jn29
    · skip
      refine r_iconst C (v := nI 1) dX11_word_24 (by decide) ?_
      refine r_goto C (t := 29) dX11_word_25 (by decide) ?_
      refine V.eSt (st' := [.int (bI true)]) rfl ?_
      refine V.ei (y := bI (decide (x ≠ nI 2) || inB y (lN 0) (lN 5))) (congrArg bI (by simp [c12, c21])) ?_
      exact jn29

