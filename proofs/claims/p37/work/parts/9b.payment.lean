/-! WORLD: a new payment -/
def payU (σ : Mu) (p m : Nat) (v : Int64) : Mu := sI (sI (sL (sI (sI σ 47 (un σ 51 51) (nI p)) 48 (un σ 51 51) (nI m)) 49 (un σ 51 51) v) 50 (un σ 51 51) (nI 0)) 51 51 (nI (un σ 51 51 + 1))
def KK (M M' : Mem) : Prop := ∀ x, mK M x ≠ 0 → mK M' x = mK M x
def XT (τ : Mu) (α : Nat → Nat) (M : Mem) (U : Mu) (β : Nat → Nat) : Prop := (∀ k, LV τ k → β k = α k) ∧ ∀ k, LV U k → LV τ k ∨ mK M (β k) = 0
theorem XT.rf {τ : Mu} {α : Nat → Nat} {M : Mem} : XT τ α M τ α := ⟨fun _ _ => rfl, fun _ h => .inl h⟩
theorem XT.tr {τ U W : Mu} {α β γ : Nat → Nat} {M M1 : Mem} (h : XT τ α M U β) (hk : KK M M1) (g : XT U β M1 W γ) (hm : ∀ k, LV τ k → LV U k) : XT τ α M W γ := by
  refine ⟨fun k hk2 => (g.1 k (hm k hk2)).trans (h.1 k hk2), fun k hk2 => ?_⟩
  rcases g.2 k hk2 with q | q
  · rcases h.2 k q with r | r
    · exact .inl r
    · exact .inr (by rw [g.1 k q]; exact r)
  · refine .inr (Classical.byContradiction fun z => ?_)
    rw [hk _ z] at q
    exact z q
theorem CF.tr {τ U : Mu} {α β : Nat → Nat} {M M1 M2 : Mem} (h : CF τ α M M1) (x : XT τ α M U β) (g : CF U β M1 M2) : CF τ α M M2 := fun a h1 h2 h3 => by
  obtain ⟨a1, a2, a3, a4, a5⟩ := h a h1 h2 h3
  obtain ⟨b1, b2, b3, b4, b5⟩ := g a (by rw [a1]; exact h1) (by rw [a1]; exact h2) (fun k hk e => by
    rcases x.2 k hk with q | q
    · exact h3 k q (e.trans (x.1 k q))
    · rw [← e] at q; exact h1 q)
  exact ⟨b1.trans a1, b2.trans a2, b3.trans a3, b4.trans a4, b5.trans a5⟩
theorem KK.tr {M M1 M2 : Mem} (h : KK M M1) (g : KK M1 M2) : KK M M2 := fun x hx => (g x (by rw [h x hx]; exact hx)).trans (h x hx)
theorem KK.kp {A B : Nat → Prop} {M M1 : Mem} (h : KP A B M M1) : KK M M1 := fun x hx => (h x hx).1
theorem KK.fr {A : Nat → Prop} {M M1 : Mem} (h : frm A M M1) : KK M M1 := fun x _ => congrFun h.1 x
theorem pm_f {σ : Mu} {p m : Nat} {v : Int64} (h51 : un σ 51 51 < 1000) (hp : p < 2 ^ 31) (hm : m < 2 ^ 31) : (∀ k, k ≠ 47 → k ≠ 48 → k ≠ 50 → k ≠ 51 → (payU σ p m v).1 k = σ.1 k) ∧ (∀ k, k ≠ 49 → (payU σ p m v).2 k = σ.2 k) ∧ un (payU σ p m v) 51 51 = un σ 51 51 + 1 ∧
    (∀ j, j ≠ un σ 51 51 → un (payU σ p m v) 47 j = un σ 47 j ∧ un (payU σ p m v) 48 j = un σ 48 j ∧ un (payU σ p m v) 50 j = un σ 50 j ∧ (payU σ p m v).2 49 j = σ.2 49 j) ∧ un (payU σ p m v) 47 (un σ 51 51) = p ∧ un (payU σ p m v) 48 (un σ 51 51) = m ∧ un (payU σ p m v) 50 (un σ 51 51) = 0 ∧ (payU σ p m v).2 49 (un σ 51 51) = v := by
  have u : ∀ k x, (payU σ p m v).1 k x = up2 (up2 (up2 (up2 σ.1 47 (un σ 51 51) (nI p)) 48 (un σ 51 51) (nI m)) 50 (un σ 51 51) (nI 0)) 51 51 (nI (un σ 51 51 + 1)) k x := fun k x => rfl
  have w : ∀ k x, (payU σ p m v).2 k x = up2 σ.2 49 (un σ 51 51) v k x := fun k x => rfl
  refine ⟨fun k h1 h2 h3 h4 => ?_, fun k h1 => ?_, nI_clamp (by omega), fun j hj => ⟨un_cg ?_, un_cg ?_, un_cg ?_, ?_⟩, ?_, ?_, ?_, ?_⟩
  · funext x
    rw [u, up2_row _ _ h4, up2_row _ _ h3, up2_row _ _ h2, up2_row _ _ h1]
  · funext x
    rw [w, up2_row _ _ h1]
  · rw [u, up2_row _ _ (by decide), up2_row _ _ (by decide), up2_row _ _ (by decide), up2_k _ _ hj]
  · rw [u, up2_row _ _ (by decide), up2_row _ _ (by decide), up2_k _ _ hj, up2_row _ _ (by decide)]
  · rw [u, up2_row _ _ (by decide), up2_k _ _ hj, up2_row _ _ (by decide), up2_row _ _ (by decide)]
  · rw [w, up2_k _ _ hj]
  · unfold un; rw [u]; simp only [up2_row _ _ (show (47 : Nat) ≠ 51 by decide), up2_row _ _ (show (47 : Nat) ≠ 50 by decide), up2_row _ _ (show (47 : Nat) ≠ 48 by decide)]; exact (congrArg _ (up2_same _ _ _ _)).trans (nI_clamp hp)
  · unfold un; rw [u]; simp only [up2_row _ _ (show (48 : Nat) ≠ 51 by decide), up2_row _ _ (show (48 : Nat) ≠ 50 by decide)]; exact (congrArg _ (up2_same _ _ _ _)).trans (nI_clamp hm)
  · unfold un; rw [u]; simp only [up2_row _ _ (show (50 : Nat) ≠ 51 by decide)]; exact (congrArg _ (up2_same _ _ _ _)).trans (nI_clamp (by decide))
  · rw [w]; exact up2_same _ _ _ _
theorem pm_wf {σ : Mu} {p m : Nat} {v : Int64} (hw : WF σ) (hn : un σ 51 51 < 144) (hp : p ≤ 5) (hm : m ≤ 23) : WF (payU σ p m v) := by
  obtain ⟨hU, l2, u51, ko, s47, s48, s50, s49⟩ := pm_f (σ := σ) (p := p) (m := m) (v := v) (by omega) (by omega) (by omega)
  rw [← mixU_e (τ := σ) (U := payU σ p m v) (fun k hk x => congrFun (hU k (by omega) (by omega) (by omega) (by omega)) x)]
  have ok : ∀ k b, (∀ j, j < un σ 51 51 → okN σ k j b) → (∀ j, j ≠ un σ 51 51 → (payU σ p m v).1 k j = σ.1 k j) → okN (payU σ p m v) k (un σ 51 51) b → ∀ j, j < un (payU σ p m v) 51 51 → okN (payU σ p m v) k j b := fun k b h1 h2 h3 j hj => by
    rw [u51] at hj
    by_cases e : j = un σ 51 51
    · rw [e]; exact h3
    · exact okN_cg (h2 j e) (h1 j (by omega))
  have u : ∀ k x, (payU σ p m v).1 k x = up2 (up2 (up2 (up2 σ.1 47 (un σ 51 51) (nI p)) 48 (un σ 51 51) (nI m)) 50 (un σ 51 51) (nI 0)) 51 51 (nI (un σ 51 51 + 1)) k x := fun k x => rfl
  refine wf_mix hw (okN_cg (congrFun (hU 46 (by decide) (by decide) (by decide) (by decide)) 46) hw.op) ⟨?_, by omega⟩ (ok 47 5 hw.pw (fun j hj => ?_) ⟨?_, by omega⟩) (ok 48 23 hw.pm (fun j hj => ?_) ⟨?_, by omega⟩) (ok 50 1 hw.pb (fun j hj => ?_) ⟨?_, by omega⟩)
  · rw [u51]; rfl
  · rw [u, up2_row _ _ (by decide), up2_row _ _ (by decide), up2_row _ _ (by decide), up2_k _ _ hj]
  · rw [s47, u, up2_row _ _ (by decide), up2_row _ _ (by decide), up2_row _ _ (by decide), up2_same]
  · rw [u, up2_row _ _ (by decide), up2_row _ _ (by decide), up2_k _ _ hj, up2_row _ _ (by decide)]
  · rw [s48, u, up2_row _ _ (by decide), up2_row _ _ (by decide), up2_same]
  · rw [u, up2_row _ _ (by decide), up2_k _ _ hj, up2_row _ _ (by decide), up2_row _ _ (by decide)]
  · rw [s50, u, up2_row _ _ (by decide), up2_same]

theorem pm_w {τ : Mu} {G : gW} {α : Nat → Nat} {M M2 M4 : Mem} {z p m : Nat} {v : Int64} {sz : Nat → Nat} {el ix : Nat → Nat → Nat} (hw : WF τ) (ws : WS τ G α M) (wt : WT τ α M) (wb : WB τ α M) (hn : un τ 51 51 < 144) (hp : p < 6) (hm0 : m ≤ 23)
    (hz : ∀ a, z ≤ a → mK M a = 0) (nb : NB tbPa z 1 [] [] (gS G 0) (up2 (up2 zI 0 0 (nI p)) 0 1 (nI m)) (up2 zL 0 2 v) (mMk M z) M2)
    (lw : LSW τ G α M sz el ix) (kp : KP (LX α (fun k => k = 28)) (LB α (fun k => k = 28) M2) M2 M4)
    (lz : LZ G α M4 (fun k => if k = 28 then sz 28 + 1 else sz k) (fun k => if k = 28 then (fun i => if i = sz 28 then z else el 28 i) else el k)) :
    WD (payU τ p m v) G (nw α (1300 + un τ 51 51) 1 z) (wL M4 (hO α p 0) 9 (mL M4 (hO α p 0) 9 + v)) ∧ XT τ α M (payU τ p m v) (nw α (1300 + un τ 51 51) 1 z) ∧ (∀ r, r < 6 → mI (wL M4 (hO α p 0) 9 (mL M4 (hO α p 0) 9 + v)) (bO α r 0) 0 = mI M (bO α r 0) 0) ∧ CF τ α M (wL M4 (hO α p 0) 9 (mL M4 (hO α p 0) 9 + v)) ∧ KK M (wL M4 (hO α p 0) 9 (mL M4 (hO α p 0) 9 + v)) := by
  have h9 := hw.nc.2
  have h44 := hw.ng.2
  have h17 := hw.nl.2
  have h46 := hw.op.2
  have hwU : WF (payU τ p m v) := pm_wf hw hn (by omega) hm0
  obtain ⟨hU, l2, u51, ko, s47, s48, s50, s49⟩ := pm_f (σ := τ) (p := p) (m := m) (v := v) (by omega) (by omega) (by omega)
  generalize hUe : payU τ p m v = U at hU l2 u51 ko s47 s48 s50 s49 hwU ⊢
  have hα : ∀ k, LV τ k → α k < z := fun k hk => Nat.lt_of_not_le fun e => ws.kn hk (hz _ e)
  have hβ : ∀ k, LV τ k → nw α (1300 + un τ 51 51) 1 z k = α k := fun k hk => nw_o (fun e => by unfold LV at hk; omega)
  have hβn : yO (nw α (1300 + un τ 51 51) 1 z) (un τ 51 51) = z := nw_n (s := 1300 + un τ 51 51) (o := 0) (by decide)
  have hLU : ∀ k, LV U k → LV τ k ∨ (1300 + un τ 51 51 ≤ k ∧ k < 1300 + un τ 51 51 + 1) := fun k hk => by
    unfold LV at hk ⊢
    rw [u51, un_e (hU 9 (by decide) (by decide) (by decide) (by decide)), un_e (hU 44 (by decide) (by decide) (by decide) (by decide)), un_e (hU 17 (by decide) (by decide) (by decide) (by decide))] at hk
    omega
  have hiU : INJ U (nw α (1300 + un τ 51 51) 1 z) := ws.1.new hα hLU (fun k hk e => by unfold LV at hk; omega)
  have hxt : XT τ α M U (nw α (1300 + un τ 51 51) 1 z) := ⟨hβ, fun k hk => (hLU k hk).imp id fun h => by
    have e : k = 1300 + un τ 51 51 := by omega
    rw [e]
    exact hz _ (Nat.le_of_eq hβn.symm)⟩
  generalize hβe : nw α (1300 + un τ 51 51) 1 z = β at hβ hβn hiU hxt ⊢
  have k02 : ∀ A B, KP A B M M2 := fun A B => (KP.mk hz).tr (nb.kp hz)
  have k04 := KP.join k02 kp
  have st : ∀ k, LV τ k → k ≠ 28 → mI M4 (α k) = mI M (α k) ∧ mL M4 (α k) = mL M (α k) := fun k hk hn => (k04 _ (ws.kn hk)).2.2.1 (LX.no ws hk (fun z => hn z.2))
  have hm : ∀ k, LV τ k → mK M4 (α k) = mK M (α k) ∧ mN M4 (α k) = mN M (α k) ∧ (¬ LC k → mR M4 (α k) = mR M (α k)) := fun k hk => ⟨(k04 _ (ws.kn hk)).1, (k04 _ (ws.kn hk)).2.1, fun q => (k04 _ (ws.kn hk)).2.2.2 (LB.no ws hk (fun z => q z.1))⟩
  have zk : mK M2 z = 10 := (nb.1 0 (by decide)).1
  have z4 : mK M4 z = 10 ∧ mI M4 z = up2 (up2 zI 0 0 (nI p)) 0 1 (nI m) 0 ∧ mL M4 z = up2 zL 0 2 v 0 := by
    obtain ⟨c1, c2, c3, c4⟩ := kp z (by rw [zk]; decide)
    have nx : ¬ LX α (fun k => k = 28) z := fun ⟨k, h1, _, e⟩ => by have := hα k h1.lv; omega
    exact ⟨c1.trans zk, (c3 nx).1.trans (nb.2.2.2.2.1 0 (by decide)).1, (c3 nx).2.trans (nb.2.2.2.2.1 0 (by decide)).2⟩
  have lsw : LSW U G β M4 (fun k => if k = 28 then sz 28 + 1 else sz k) (elc β ix) ix := by
    obtain ⟨_, ⟨g1, g2⟩, ⟨g3, g4⟩, ⟨g5, g6⟩, gp⟩ := lw
    refine LSW.of (lz.al (fun k hk => hβ k hk.lv)) (fun k hk => rfl) (fun k hk i hi => ?_) ?_ ?_ ?_ (fun r hr => ?_)
    · rcases hk with rfl | rfl | rfl | ⟨r, o, hr, h1, h2, rfl⟩
      · show cO β i 0 = el 1 i
        have hi2 : i < sz 1 := hi
        rw [g1] at hi2
        rw [g2]; exact hβ _ (lv_c hi2 (by decide))
      · show aO β i 0 = el 27 i
        have hi2 : i < sz 27 := hi
        rw [g3] at hi2
        rw [g4]; exact hβ _ (lv_a hi2 (by decide))
      · show yO β i = if i = sz 28 then z else el 28 i
        have hi2 : i < sz 28 + 1 := hi
        rw [g5] at hi2 ⊢
        by_cases e : i = un τ 51 51
        · rw [if_pos e, e]; exact hβn
        · rw [if_neg e, g6]; exact hβ _ (lv_y (by omega))
      · obtain ⟨⟨e1, e2⟩, ⟨e3, e4⟩, ⟨e5, e6⟩⟩ := gp r hr
        rw [elc_p hr h1 h2]
        have hi2 : i < (if 29 + 57 * r + o = 28 then sz 28 + 1 else sz (29 + 57 * r + o)) := hi
        show _ = (if 29 + 57 * r + o = 28 then (fun i => if i = sz 28 then z else el 28 i) else el (29 + 57 * r + o)) i
        rw [if_neg (by omega)] at hi2
        rw [if_neg (show ¬ 29 + 57 * r + o = 28 by omega)]
        rcases (show o = 1 ∨ o = 2 ∨ o = 3 by omega) with rfl | rfl | rfl
        · rw [if_pos rfl, e2]; exact hβ _ (lv_c (e1.1 i hi2).1 (by decide))
        · rw [if_neg (by decide), if_pos rfl, e4]; exact hβ _ (lv_l (e3.1 i hi2).1)
        · rw [if_neg (by decide), if_neg (by decide), e6]; exact hβ _ (lv_a (e5.1 i hi2).1 (by decide))
    · show sz 1 = _
      rw [g1, un_e (hU 9 (by decide) (by decide) (by decide) (by decide))]
    · show sz 27 = _
      rw [g3, un_e (hU 44 (by decide) (by decide) (by decide) (by decide))]
    · show sz 28 + 1 = _
      rw [g5, u51]
    · obtain ⟨⟨e1, e2⟩, ⟨e3, e4⟩, ⟨e5, e6⟩⟩ := gp r hr
      refine ⟨?_, ?_, ?_⟩
      · show EnN _ _ (if 29 + 57 * r + 1 = 28 then sz 28 + 1 else sz (29 + 57 * r + 1)) _
        rw [if_neg (by omega), un_e (hU 9 (by decide) (by decide) (by decide) (by decide))]
        exact e1.cg fun c _ => by rw [un_e (hU 0 (by decide) (by decide) (by decide) (by decide))]
      · show EnL U r (if 29 + 57 * r + 2 = 28 then sz 28 + 1 else sz (29 + 57 * r + 2)) _
        rw [if_neg (by omega)]
        exact e3.cg (congrFun (un_e (hU 17 (by decide) (by decide) (by decide) (by decide))) 17) (fun k hk => ⟨by rw [un_e (hU 0 (by decide) (by decide) (by decide) (by decide)), un_e (hU 14 (by decide) (by decide) (by decide) (by decide))], congrFun (un_e (hU 15 (by decide) (by decide) (by decide) (by decide))) k⟩)
      · show EnG U r (if 29 + 57 * r + 3 = 28 then sz 28 + 1 else sz (29 + 57 * r + 3)) _
        rw [if_neg (by omega)]
        exact e5.cg (congrFun (un_e (hU 44 (by decide) (by decide) (by decide) (by decide))) 44) (fun k hk => ⟨congrFun (un_e (hU 38 (by decide) (by decide) (by decide) (by decide))) k, congrFun (un_e (hU 40 (by decide) (by decide) (by decide) (by decide))) k⟩)
  have wsU : WS U G β M4 := ws.grow hw hβ hm hiU (fun c hc => .inl (by rw [un_e (hU 9 (by decide) (by decide) (by decide) (by decide))] at hc; exact hc)) (fun g hg => .inl (by rw [un_e (hU 44 (by decide) (by decide) (by decide) (by decide))] at hg; exact hg)) (fun k hk => .inl ⟨by rw [un_e (hU 17 (by decide) (by decide) (by decide) (by decide))] at hk; exact hk, congrFun (un_e (hU 14 (by decide) (by decide) (by decide) (by decide))) k⟩) (fun k hk => by
    rw [u51] at hk
    by_cases e : k < un τ 51 51
    · exact .inl e
    · obtain rfl : k = un τ 51 51 := by omega
      rw [hβn]; exact .inr z4.1) lsw
  have f : frm (fun a => a = hO α p 0) M4 (wL M4 (hO α p 0) 9 (mL M4 (hO α p 0) 9 + v)) := (frm.rf _ _).wl _ _ rfl
  have lp := lv_h (τ := τ) hp (show 0 < 57 by decide)
  have ei : ∀ k, LV τ k → k ≠ 28 → mI (wL M4 (hO α p 0) 9 (mL M4 (hO α p 0) 9 + v)) (α k) = mI M (α k) := fun k hk h => (st k hk h).1
  have ell : ∀ k, LV τ k → k ≠ 28 → k ≠ 29 + 57 * p → mL (wL M4 (hO α p 0) 9 (mL M4 (hO α p 0) 9 + v)) (α k) = mL M (α k) := fun k hk h1 h2 => (wL_a (ws.1.ne hk lp (by omega))).trans (st k hk h1).2
  have zf : z ≠ hO α p 0 := by have := hα _ lp; unfold hO; omega
  have ezl : mL (wL M4 (hO α p 0) 9 (mL M4 (hO α p 0) 9 + v)) z = mL M4 z := wL_a zf
  have ep : ∀ k, mL (wL M4 (hO α p 0) 9 (mL M4 (hO α p 0) 9 + v)) (hO α p 0) k = if k = 9 then mL M (hO α p 0) 9 + v else mL M (hO α p 0) k := fun k => by
    have s := (st _ lp (by omega)).2
    by_cases e : k = 9
    · subst e; rw [if_pos rfl]; exact wL_i.trans (congrArg (· + v) (congrFun s 9))
    · rw [if_neg e]; exact (wL_k e).trans (congrFun s k)
  have wz : WS U G β (wL M4 (hO α p 0) 9 (mL M4 (hO α p 0) 9 + v)) := wsU.fr f (fun k hk e => by
    rw [hβ k hk.lv] at e
    have := ws.1 _ _ hk.lv lp e
    rcases hk with rfl | rfl | rfl | ⟨q, o, h1, h2, h3, rfl⟩ <;> omega)
  have kk4 : KK M M4 := KK.kp k04
  have ezi : mI (wL M4 (hO α p 0) 9 (mL M4 (hO α p 0) 9 + v)) z = mI M4 z := rfl
  have kk5 : KK M (wL M4 (hO α p 0) 9 (mL M4 (hO α p 0) 9 + v)) := kk4
  have cf5 : CF τ α M (wL M4 (hO α p 0) 9 (mL M4 (hO α p 0) 9 + v)) := by
    have g : KP (fun x => LX α (fun k => k = 28) x ∨ x = hO α p 0) (fun x => LX α (fun k => k = 28) x ∨ mK M x = 26) M (wL M4 (hO α p 0) 9 (mL M4 (hO α p 0) 9 + v)) := (k04.mono (fun x _ h => .inl h) (fun x hx h => h.elim .inl (fun h => h.elim .inr (fun h => absurd h hx)))).tr (KP.fr ((frm.rf (fun x => LX α (fun k => k = 28) x ∨ x = hO α p 0) M4).wl 9 _ (.inr rfl)))
    exact g.cf (fun a h => h.elim LX.lv (fun h => ⟨_, lp, h⟩)) (fun a h => h.elim (fun h => .inl h.lv) .inr)
  generalize hM5 : wL M4 (hO α p 0) 9 (mL M4 (hO α p 0) 9 + v) = M5 at ei ell ezl ep wz ezi kk5 cf5 ⊢
  obtain ⟨w1, w2, w3, w4, w5⟩ := wt
  refine ⟨⟨wz, ⟨fun c hc => ?_, fun r hr => ?_, fun q hq => ?_, ?_, ?_, ?_, ?_⟩, ⟨fun c hc hcz => ?_, fun r hr hz0 => ?_⟩⟩, hxt, fun r hr => congrFun (ei _ (lv_b hr (show 0 < 42 by decide)) (by omega)) 0, cf5, kk5⟩
  · rw [un_e (hU 9 (by decide) (by decide) (by decide) (by decide))] at hc
    exact WTc.al (fun o ho => hβ _ (lv_c hc ho)) (((w1 c hc).cg (fun k _ => congrFun (ei _ (lv_c hc (show 0 < 10 by decide)) (by omega)) k) (fun o _ ho => ei _ (lv_c hc (show o < 10 by omega)) (by omega))).u (fun k hk => hU k (by omega) (by omega) (by omega) (by omega)))
  · refine WTp.al (fun o ho => hβ _ (lv_h hr (show o < 57 by omega))) ?_
    have b := w2 r hr
    have sn : sumL (fun k => if un U 47 k = r ∧ un U 50 k = 0 then U.2 49 k else 0) (un U 51 51) = sumL (fun k => if un τ 47 k = r ∧ un τ 50 k = 0 then τ.2 49 k else 0) (un τ 51 51) + (if p = r then v else 0) := by
      rw [u51]
      show sumL (fun k => if un U 47 k = r ∧ un U 50 k = 0 then U.2 49 k else 0) (un τ 51 51) + (if un U 47 (un τ 51 51) = r ∧ un U 50 (un τ 51 51) = 0 then U.2 49 (un τ 51 51) else 0) = _
      rw [sumL_cg (g := fun k => if un τ 47 k = r ∧ un τ 50 k = 0 then τ.2 49 k else 0) (fun i hi => by
        obtain ⟨q1, q2, q3, q4⟩ := ko i (by omega)
        rw [q1, q3, q4]), s47, s50, s49]
      by_cases e : p = r
      · rw [if_pos e, if_pos ⟨e, rfl⟩]
      · rw [if_neg e, if_neg (fun y => e y.1)]
    refine WTp.lo (τ := τ) (M := M) (fun o ho => ei _ (lv_h hr (show o < 57 by omega)) (by omega)) (hU 30 (by decide) (by decide) (by decide) (by decide)) (hU 36 (by decide) (by decide) (by decide) (by decide)) (hU 37 (by decide) (by decide) (by decide) (by decide)) (fun j hj => ?_) ?_ ?_ b
    · rw [l2 45 (by decide)]
      exact (congrFun (ell _ (lv_h hr (show 14 < 57 by decide)) (by omega) (by omega)) j).trans (b.2.2.2.2.1 j hj)
    · rw [l2 45 (by decide)]
      by_cases e : r = p
      · subst e; rw [ep, if_neg (by decide)]; exact b.2.2.2.2.2.1
      · exact (congrFun (ell _ (lv_h hr (show 0 < 57 by decide)) (by omega) (by omega)) 8).trans b.2.2.2.2.2.1
    · rw [sn]
      by_cases e : r = p
      · subst e; rw [ep, if_pos rfl, if_pos rfl, b.2.2.2.2.2.2]
      · rw [if_neg (fun y => e y.symm), Int64.add_zero]
        exact (congrFun (ell _ (lv_h hr (show 0 < 57 by decide)) (by omega) (by omega)) 9).trans b.2.2.2.2.2.2
  · exact (((w3 q hq).cg (fun o ho => ei _ (lv_g hq ho) (by omega)) (fun o ho => ell _ (lv_g hq ho) (by omega) (by omega))).u (hU 31 (by decide) (by decide) (by decide) (by decide)) (hU 32 (by decide) (by decide) (by decide) (by decide)) (hU 33 (by decide) (by decide) (by decide) (by decide)) (hU 34 (by decide) (by decide) (by decide) (by decide)) (hU 35 (by decide) (by decide) (by decide) (by decide)) (hU 54 (by decide) (by decide) (by decide) (by decide)) (l2 52 (by decide)) (l2 53 (by decide))).al (fun o ho => hβ _ (lv_g hq ho))
  · refine WTx.al (fun o ho => hβ o (lv_s (by omega))) ?_
    obtain ⟨b1, b2, b3, b4, b5, b6, b7⟩ := w4
    unfold WTx
    rw [ei 0 (lv_s (by decide)) (by omega), un_e (hU 13 (by decide) (by decide) (by decide) (by decide)), un_e (hU 17 (by decide) (by decide) (by decide) (by decide)), un_e (hU 18 (by decide) (by decide) (by decide) (by decide)), un_e (hU 19 (by decide) (by decide) (by decide) (by decide)), un_e (hU 20 (by decide) (by decide) (by decide) (by decide)), un_e (hU 46 (by decide) (by decide) (by decide) (by decide))]
    exact ⟨b1, b2, b3, b4, b5, b6, (b7.cgs (fun o ho => ei (4 + o) (lv_s (by omega)) (by omega))).u (hU 22 (by decide) (by decide) (by decide) (by decide)) (hU 23 (by decide) (by decide) (by decide) (by decide)) (hU 24 (by decide) (by decide) (by decide) (by decide)) (hU 25 (by decide) (by decide) (by decide) (by decide)) (hU 26 (by decide) (by decide) (by decide) (by decide)) (hU 27 (by decide) (by decide) (by decide) (by decide))⟩
  · intro k hk
    rw [un_e (hU 17 (by decide) (by decide) (by decide) (by decide))] at hk
    rw [show lO β k = lO α k from hβ _ (lv_l hk), un_e (hU 15 (by decide) (by decide) (by decide) (by decide))]
    exact (congrFun (ei _ (lv_l hk) (by omega)) 1).trans (w5.1 k hk)
  · intro x hx
    rw [un_e (hU 44 (by decide) (by decide) (by decide) (by decide))] at hx
    unfold GaF
    rw [show aO β x 0 = aO α x 0 from hβ _ (lv_a hx (by decide)), show mI M5 (aO α x 0) = mI M (aO α x 0) from ei _ (lv_a hx (by decide)) (by omega), un_e (hU 38 (by decide) (by decide) (by decide) (by decide)), un_e (hU 39 (by decide) (by decide) (by decide) (by decide)), un_e (hU 40 (by decide) (by decide) (by decide) (by decide)), un_e (hU 41 (by decide) (by decide) (by decide) (by decide)), un_e (hU 42 (by decide) (by decide) (by decide) (by decide)), un_e (hU 43 (by decide) (by decide) (by decide) (by decide))]
    exact w5.2.1 x hx
  · intro k hk
    rw [u51] at hk
    by_cases e : k < un τ 51 51
    · obtain ⟨q1, q2, q3, q4⟩ := ko k (by omega)
      rw [show yO β k = yO α k from hβ _ (lv_y e), show mI M5 (yO α k) = mI M (yO α k) from ei _ (lv_y e) (by omega), show mL M5 (yO α k) = mL M (yO α k) from ell _ (lv_y e) (by omega) (by omega), q1, q2, q3, q4]
      exact w5.2.2 k e
    · obtain rfl : k = un τ 51 51 := by omega
      rw [hβn, ezi, ezl, z4.2.1, z4.2.2, s47, s48, s49, s50]
      exact ⟨rfl, rfl, rfl, rfl⟩
  · rw [un_e (hU 9 (by decide) (by decide) (by decide) (by decide))] at hc
    have cs : ∀ o, o < 10 → cO β c o = cO α c o := fun o ho => hβ _ (lv_c hc ho)
    have cv : ∀ o, o < 10 → mI M5 (cO α c o) = mI M (cO α c o) ∧ mL M5 (cO α c o) = mL M (cO α c o) := fun o ho => ⟨ei _ (lv_c hc ho) (by omega), ell _ (lv_c hc ho) (by omega) (by omega)⟩
    rw [cs 0 (by decide), (cv 0 (by decide)).1] at hcz
    have y := (wb.1 c hc hcz).u (U := U) (fun k hk => hU k (by omega) (by omega) (by omega) (by omega))
    intro m hm
    rw [cs 7 (by decide), cs 8 (by decide), (cv 7 (by decide)).2, (cv 8 (by decide)).1]
    exact y m hm
  · have nb' : ∀ o, o < 42 → mI M5 (bO α r o) = mI M (bO α r o) ∧ mL M5 (bO α r o) = mL M (bO α r o) := fun o ho => ⟨ei _ (lv_b hr ho) (by omega), ell _ (lv_b hr ho) (by omega) (by omega)⟩
    refine BF.vp (VP.of hw (fun k hk => hU k (by omega) (by omega) (by omega) (by omega)) (fun m _ => by rw [l2 45 (by decide)])) (BF.al hr hβ (BF.cg nb' (fun x hx _ => ell _ (lv_a hx (show 1 < 2 by decide)) (by omega) (by omega)) (fun x hx _ => ⟨ei _ (lv_c hx (show 8 < 10 by decide)) (by omega), ell _ (lv_c hx (show 7 < 10 by decide)) (by omega) (by omega), ell _ (lv_c hx (show 9 < 10 by decide)) (by omega) (by omega)⟩) (fun k hk _ => congrFun (ei _ (lv_l hk) (by omega)) 2) (wb.2 r hr ?_)))
    rw [← (nb' 0 (by decide)).1, ← show bO β r 0 = bO α r 0 from hβ _ (lv_b hr (by decide))]
    exact hz0

