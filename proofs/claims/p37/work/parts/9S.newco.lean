/-! contract -/
theorem KP.fr2 {A0 : Nat → Prop} {M M1 M2 : Mem} (k : ∀ A B, KP A B M M1) (f : frm A0 M1 M2) (h : ∀ x, A0 x → mK M x = 0) : ∀ A B, KP A B M M2 := fun A B x hx => by
  obtain ⟨a1, a2, a3, a4⟩ := k (fun _ => False) (fun _ => False) x hx
  have n : ¬ A0 x := fun z => hx (h x z)
  exact ⟨(congrFun f.1 x).trans a1, (congrFun f.2.1 x).trans a2, fun _ => ⟨(f.i n).trans (a3 id).1, (f.l n).trans (a3 id).2⟩, fun _ => (congrFun f.2.2.1 x).trans (a4 id)⟩
theorem WTp.cg2 {τ : Mu} {α : Nat → Nat} {M M1 : Mem} {r : Nat} (e : ∀ o, o = 0 ∨ 4 ≤ o → o < 15 → mI M1 (hO α r o) = mI M (hO α r o)) (el : ∀ o, o = 0 ∨ 4 ≤ o → o < 15 → mL M1 (hO α r o) = mL M (hO α r o)) (w : WTp τ α M r) : WTp τ α M1 r := by
  obtain ⟨b1, b2, b3, b4, b5, b6, b7⟩ := w
  unfold WTp StV
  rw [e 0 (by decide) (by decide), e 5 (by decide) (by decide), e 6 (by decide) (by decide), e 8 (by decide) (by decide), e 9 (by decide) (by decide), el 14 (by decide) (by decide), el 0 (by decide) (by decide)]
  exact ⟨b1, b2, b3, fun q hq m hm => by rw [e (11 + q) (by omega) (by omega)]; exact b4 q hq m hm, b5, b6, b7⟩
theorem EnL.cg {τ U : Mu} {p nl : Nat} {ln : Nat → Nat} (h : EnL τ p nl ln) (h17 : un U 17 17 = un τ 17 17) (e : ∀ k, k < un τ 17 17 → un U 0 (un U 14 k) = un τ 0 (un τ 14 k) ∧ un U 15 k = un τ 15 k) : EnL U p nl ln := by
  obtain ⟨a1, a2, a3⟩ := h
  refine ⟨fun i hi => ?_, fun i j h1 h2 => ?_, fun k hk hq => ?_⟩
  · rw [h17, (e _ (a1 i hi).1).1]; exact a1 i hi
  · rw [(e _ (a1 i (by omega)).1).2, (e _ (a1 j h2).1).2]; exact a2 i j h1 h2
  · rw [h17] at hk
    rw [(e k hk).1] at hq
    exact a3 k hk hq
theorem EnG.cg {τ U : Mu} {p ng : Nat} {gn : Nat → Nat} (h : EnG τ p ng gn) (h44 : un U 44 44 = un τ 44 44) (e : ∀ k, k < un τ 44 44 → un U 38 k = un τ 38 k ∧ un U 40 k = un τ 40 k) : EnG U p ng gn := by
  obtain ⟨a1, a2, a3⟩ := h
  refine ⟨fun i hi => ?_, fun i j h1 h2 => ?_, fun k hk hq => ?_⟩
  · rw [h44, (e _ (a1 i hi).1).1]; exact a1 i hi
  · rw [(e _ (a1 i (by omega)).1).2, (e _ (a1 j h2).1).2]; exact a2 i j h1 h2
  · rw [h44] at hk
    rw [(e k hk).1] at hq
    exact a3 k hk hq

theorem co_w {τ : Mu} {G : gW} {α : Nat → Nat} {M M1 M2 M4 : Mem} {z p q f t b w v : Nat} {sz : Nat → Nat} {el ix : Nat → Nat → Nat} (hw : WF τ) (ws : WS τ G α M) (wt : WT τ α M) (wb : WB τ α M) (h6 : ∀ d, d < 720 → τ.1 6 (720 * un τ 9 9 + d) = -1) (hn : un τ 9 9 ≠ 10) (hp : p < 6) (hq : q ≤ 2) (hft : f ≤ t) (ht : t ≤ 719) (hb : b ≤ 1) (hw0 : 60 ≤ w) (hw6 : w ≤ 600) (hv : v ≤ 1000000)
    (hz : ∀ a, z ≤ a → mK M a = 0) (nb : NB tbCo z 10 [(0, 14, 9), (0, 13, 8), (0, 12, 7), (0, 9, 6), (0, 8, 5), (0, 7, 4), (0, 6, 1), (1, 1, 3), (1, 0, 2)] [] (gS G 0) (up2 (up2 (up2 (up2 (up2 (up2 (up2 zI 0 11 (nI 1)) 0 0 (nI p)) 0 1 (nI q)) 0 2 (nI f)) 0 3 (nI t)) 0 4 (nI b)) 0 5 (nI w)) zL (mMk M z) M1) (f2 : frm (fun a => a = z + 2 ∨ a = z + 3) M1 M2) (sv : StV (upV (fun _ => none) f (nI v)) (mI M2) (z + 2) (z + 3) 720)
    (lw : LSW τ G α M sz el ix) (kp : KP (LX α (fun k => k = 1 ∨ k = 29 + 57 * p + 1)) (LB α (fun k => k = 1 ∨ k = 29 + 57 * p + 1) M2) M2 M4)
    (lz : LZ G α M4 (fun k => if k = 29 + 57 * p + 1 then sz (29 + 57 * p + 1) + 1 else (fun k => if k = 1 then sz 1 + 1 else sz k) k) (fun k => if k = 29 + 57 * p + 1 then (fun i => if i = sz (29 + 57 * p + 1) then z else el (29 + 57 * p + 1) i) else (fun k => if k = 1 then (fun i => if i = sz 1 then z else el 1 i) else el k) k)) :
    WD (coV τ p q f t b w v) G (nw α (1000 + 10 * un τ 9 9) 10 z) (wI M4 (bO α p 0) 0 (nI 1)) ∧ KP (LX α (fun k => k = 1 ∨ k = 29 + 57 * p + 1)) (LB α (fun k => k = 1 ∨ k = 29 + 57 * p + 1) M) M M4 := by
  have h9 := hw.nc.2
  have h44 := hw.ng.2
  have h17 := hw.nl.2
  have h51 := hw.np.2
  have h46 := hw.op.2
  have hwU := wf_contract hw hn (show p ≤ 5 by omega) hq hft ht hb hw0 hw6 hv
  obtain ⟨hU, l2, u9, ko, ⟨s0, s1, s2, s3, s4, s5⟩, u6, u6s, u7, u7n⟩ := co_f (τ := τ) (p := p) (q := q) (f := f) (t := t) (b := b) (w := w) (v := v) (by omega) (by omega) (by omega) (by omega) (by omega) (by omega) (by omega)
  generalize hUe : coV τ p q f t b w v = U at hU l2 u9 ko s0 s1 s2 s3 s4 s5 u6 u6s u7 u7n hwU ⊢
  have hα : ∀ k, LV τ k → α k < z := fun k hk => Nat.lt_of_not_le fun e => ws.kn hk (hz _ e)
  have hβ : ∀ k, LV τ k → nw α (1000 + 10 * un τ 9 9) 10 z k = α k := fun k hk => nw_o (fun e => by unfold LV at hk; omega)
  have hβn : ∀ o, o < 10 → cO (nw α (1000 + 10 * un τ 9 9) 10 z) (un τ 9 9) o = z + o := fun o ho => nw_n (s := 1000 + 10 * un τ 9 9) ho
  have hLU : ∀ k, LV U k → LV τ k ∨ (1000 + 10 * un τ 9 9 ≤ k ∧ k < 1000 + 10 * un τ 9 9 + 10) := fun k hk => by
    unfold LV at hk ⊢
    rw [u9, un_e (hU 44 (by omega)), un_e (hU 17 (by omega)), un_e (hU 51 (by omega))] at hk
    omega
  have hiU : INJ U (nw α (1000 + 10 * un τ 9 9) 10 z) := ws.1.new hα hLU (fun k hk e => by unfold LV at hk; omega)
  generalize hβe : nw α (1000 + 10 * un τ 9 9) 10 z = β at hβ hβn hiU ⊢
  have k02 : ∀ A B, KP A B M M2 := KP.fr2 (fun A B => (KP.mk hz).tr (nb.kp hz)) f2 (fun x hx => hz x (by omega))
  have k04 := KP.join k02 kp
  have st : ∀ k, LV τ k → k ≠ 1 ∧ k ≠ 29 + 57 * p + 1 → mI M4 (α k) = mI M (α k) ∧ mL M4 (α k) = mL M (α k) := fun k hk hn => (k04 _ (ws.kn hk)).2.2.1 (LX.no ws hk (fun z => z.2.elim hn.1 hn.2))
  have hm : ∀ k, LV τ k → mK M4 (α k) = mK M (α k) ∧ mN M4 (α k) = mN M (α k) ∧ (¬ LC k → mR M4 (α k) = mR M (α k)) := fun k hk => ⟨(k04 _ (ws.kn hk)).1, (k04 _ (ws.kn hk)).2.1, fun q => (k04 _ (ws.kn hk)).2.2.2 (LB.no ws hk (fun z => q z.1))⟩
  have zk : ∀ o, o < 10 → mK M2 (z + o) = tbCo.1.getD o 0 ∧ mN M2 (z + o) = tbCo.2.1.getD o 0 := fun o ho => by rw [f2.1, f2.2.1]; exact nb.1 o ho
  have zn : ∀ o, o < 10 → mK M2 (z + o) ≠ 0 ∧ mK M2 (z + o) ≠ 26 := fun o ho => by
    rw [(zk o ho).1]
    have c : (List.range 10).all (fun o => tbCo.1.getD o 0 != 0 && tbCo.1.getD o 0 != 26) = true := rfl
    have := List.all_eq_true.mp c o (List.mem_range.mpr ho)
    simpa using this
  have z4 : ∀ o, o < 10 → mK M4 (z + o) = mK M2 (z + o) ∧ mN M4 (z + o) = mN M2 (z + o) ∧ mI M4 (z + o) = mI M2 (z + o) ∧ mR M4 (z + o) = mR M2 (z + o) := fun o ho => by
    obtain ⟨c1, c2, c3, c4⟩ := kp _ (zn o ho).1
    have nx : ¬ LX α (fun k => k = 1 ∨ k = 29 + 57 * p + 1) (z + o) := fun ⟨k, h1, _, e⟩ => by have := hα k h1.lv; omega
    exact ⟨c1, c2, (c3 nx).1, c4 (fun y => y.elim nx (fun y => y.elim (zn o ho).2 (zn o ho).1))⟩
  have zI0 : ∀ o, o < 10 → o ≠ 2 → o ≠ 3 → mI M4 (z + o) = (up2 (up2 (up2 (up2 (up2 (up2 (up2 zI 0 11 (nI 1)) 0 0 (nI p)) 0 1 (nI q)) 0 2 (nI f)) 0 3 (nI t)) 0 4 (nI b)) 0 5 (nI w)) o := fun o ho n2 n3 => (z4 o ho).2.2.1.trans ((f2.i (fun y => by omega)).trans (nb.2.2.2.2.1 o ho).1)
  have blk : Blk tbCo (mK M4) (mN M4) (mR M4) (cO β (un τ 9 9)) := (nb.blk rfl rfl).xf rfl (fun o ho => ⟨hβn o ho, by rw [(z4 o ho).1, f2.1], by rw [(z4 o ho).2.1, f2.2.1]⟩) (fun r hr => by
    have c : tbCo.2.2.all (fun r => decide (r.1 < 10)) = true := rfl
    have t := List.all_eq_true.mp c r hr
    simp only [decide_eq_true_eq] at t
    show mR M4 (z + r.1) r.2.1 = mR M1 (z + r.1) r.2.1
    rw [(z4 r.1 t).2.2.2, f2.2.2.1])
  have u0 : ∀ c, c < un τ 9 9 → un U 0 c = un τ 0 c := fun c hc => un_cg (ko 0 (by decide) c (by omega))
  have u014 : ∀ k, k < un τ 17 17 → un U 0 (un U 14 k) = un τ 0 (un τ 14 k) := fun k hk => by rw [un_e (hU 14 (by omega))]; exact u0 _ (hw.lc k hk).2
  have lsw : LSW U G β M4 (fun k => if k = 29 + 57 * p + 1 then sz (29 + 57 * p + 1) + 1 else (fun k => if k = 1 then sz 1 + 1 else sz k) k) (elc β (fun k => if k = 29 + 57 * p + 1 then (fun i => if i = sz k then un τ 9 9 else ix k i) else ix k)) (fun k => if k = 29 + 57 * p + 1 then (fun i => if i = sz k then un τ 9 9 else ix k i) else ix k) := by
    obtain ⟨_, ⟨g1, g2⟩, ⟨g3, g4⟩, ⟨g5, g6⟩, gp⟩ := lw
    refine LSW.of (lz.al (fun k hk => hβ k hk.lv)) (fun k hk => rfl) (fun k hk i hi => ?_) ?_ ?_ ?_ (fun r hr => ?_)
    · rcases hk with rfl | rfl | rfl | ⟨r, o, hr, h1, h2, rfl⟩
      · show cO β i 0 = (if 1 = 29 + 57 * p + 1 then (fun i => if i = sz (29 + 57 * p + 1) then z else el (29 + 57 * p + 1) i) else (fun i => if i = sz 1 then z else el 1 i)) i
        have hi2 : i < (if 1 = 29 + 57 * p + 1 then sz (29 + 57 * p + 1) + 1 else sz 1 + 1) := hi
        rw [if_neg (by omega)] at hi2 ⊢
        show cO β i 0 = if i = sz 1 then z else el 1 i
        rw [g1] at hi2 ⊢
        by_cases e : i = un τ 9 9
        · rw [if_pos e, e]; exact hβn 0 (by decide)
        · rw [if_neg e, g2]; exact hβ _ (lv_c (by omega) (by decide))
      · show aO β i 0 = (if 27 = 29 + 57 * p + 1 then (fun i => if i = sz (29 + 57 * p + 1) then z else el (29 + 57 * p + 1) i) else el 27) i
        have hi2 : i < (if 27 = 29 + 57 * p + 1 then sz (29 + 57 * p + 1) + 1 else sz 27) := hi
        rw [if_neg (by omega)] at hi2 ⊢
        rw [g3] at hi2
        rw [g4]; exact hβ _ (lv_a hi2 (by decide))
      · show yO β i = (if 28 = 29 + 57 * p + 1 then (fun i => if i = sz (29 + 57 * p + 1) then z else el (29 + 57 * p + 1) i) else el 28) i
        have hi2 : i < (if 28 = 29 + 57 * p + 1 then sz (29 + 57 * p + 1) + 1 else sz 28) := hi
        rw [if_neg (by omega)] at hi2 ⊢
        rw [g5] at hi2
        rw [g6]; exact hβ _ (lv_y hi2)
      · obtain ⟨⟨e1, e2⟩, ⟨e3, e4⟩, ⟨e5, e6⟩⟩ := gp r hr
        rw [elc_p hr h1 h2]
        have hi2 : i < (if 29 + 57 * r + o = 29 + 57 * p + 1 then sz (29 + 57 * p + 1) + 1 else (if 29 + 57 * r + o = 1 then sz 1 + 1 else sz (29 + 57 * r + o))) := hi
        show _ = (if 29 + 57 * r + o = 29 + 57 * p + 1 then (fun i => if i = sz (29 + 57 * p + 1) then z else el (29 + 57 * p + 1) i) else (if 29 + 57 * r + o = 1 then (fun i => if i = sz 1 then z else el 1 i) else el (29 + 57 * r + o))) i
        by_cases y : 29 + 57 * r + o = 29 + 57 * p + 1
        · obtain rfl : r = p := by omega
          obtain rfl : o = 1 := by omega
          rw [if_pos rfl] at hi2
          rw [if_pos rfl, if_pos rfl, if_pos rfl]
          show cO β (if i = sz (29 + 57 * r + 1) then un τ 9 9 else ix (29 + 57 * r + 1) i) 0 = if i = sz (29 + 57 * r + 1) then z else el (29 + 57 * r + 1) i
          by_cases e : i = sz (29 + 57 * r + 1)
          · rw [if_pos e, if_pos e]; exact hβn 0 (by decide)
          · rw [if_neg e, if_neg e, e2]; exact hβ _ (lv_c (e1.1 i (by omega)).1 (by decide))
        · rw [if_neg y, if_neg (by omega)] at hi2
          rw [if_neg y, if_neg (show ¬ 29 + 57 * r + o = 1 by omega)]
          rcases (show o = 1 ∨ o = 2 ∨ o = 3 by omega) with rfl | rfl | rfl
          · rw [if_pos rfl]
            rw [if_neg y, e2]; exact hβ _ (lv_c (e1.1 i hi2).1 (by decide))
          · rw [if_neg (by decide), if_pos rfl]
            rw [if_neg y, e4]; exact hβ _ (lv_l (e3.1 i hi2).1)
          · rw [if_neg (by decide), if_neg (by decide)]
            rw [if_neg y, e6]; exact hβ _ (lv_a (e5.1 i hi2).1 (by decide))
    · show (if 1 = 29 + 57 * p + 1 then sz (29 + 57 * p + 1) + 1 else sz 1 + 1) = _
      rw [if_neg (by omega), g1, u9]
    · show (if 27 = 29 + 57 * p + 1 then sz (29 + 57 * p + 1) + 1 else sz 27) = _
      rw [if_neg (by omega), g3, un_e (hU 44 (by omega))]
    · show (if 28 = 29 + 57 * p + 1 then sz (29 + 57 * p + 1) + 1 else sz 28) = _
      rw [if_neg (by omega), g5, un_e (hU 51 (by omega))]
    · obtain ⟨⟨e1, e2⟩, ⟨e3, e4⟩, ⟨e5, e6⟩⟩ := gp r hr
      have c1 : EnN (fun c => un U 0 c = r) (un τ 9 9) (sz (29 + 57 * r + 1)) (ix (29 + 57 * r + 1)) := e1.cg fun c hc => by rw [u0 c hc]
      refine ⟨?_, ?_, ?_⟩
      · show EnN _ _ (if 29 + 57 * r + 1 = 29 + 57 * p + 1 then sz (29 + 57 * p + 1) + 1 else (if 29 + 57 * r + 1 = 1 then sz 1 + 1 else sz (29 + 57 * r + 1))) (if 29 + 57 * r + 1 = 29 + 57 * p + 1 then (fun i => if i = sz (29 + 57 * r + 1) then un τ 9 9 else ix (29 + 57 * r + 1) i) else ix (29 + 57 * r + 1))
        rw [u9]
        by_cases y : r = p
        · subst y
          rw [if_pos rfl, if_pos rfl]
          exact c1.add s0
        · rw [if_neg (by omega), if_neg (by omega), if_neg (by omega)]
          exact c1.skip (fun h => y (h.symm.trans s0))
      · show EnL U r (if 29 + 57 * r + 2 = 29 + 57 * p + 1 then sz (29 + 57 * p + 1) + 1 else (if 29 + 57 * r + 2 = 1 then sz 1 + 1 else sz (29 + 57 * r + 2))) (if 29 + 57 * r + 2 = 29 + 57 * p + 1 then (fun i => if i = sz (29 + 57 * r + 2) then un τ 9 9 else ix (29 + 57 * r + 2) i) else ix (29 + 57 * r + 2))
        rw [if_neg (by omega), if_neg (by omega), if_neg (by omega)]
        exact e3.cg (congrFun (un_e (hU 17 (by omega))) 17) (fun k hk => ⟨u014 k hk, congrFun (un_e (hU 15 (by omega))) k⟩)
      · show EnG U r (if 29 + 57 * r + 3 = 29 + 57 * p + 1 then sz (29 + 57 * p + 1) + 1 else (if 29 + 57 * r + 3 = 1 then sz 1 + 1 else sz (29 + 57 * r + 3))) (if 29 + 57 * r + 3 = 29 + 57 * p + 1 then (fun i => if i = sz (29 + 57 * r + 3) then un τ 9 9 else ix (29 + 57 * r + 3) i) else ix (29 + 57 * r + 3))
        rw [if_neg (by omega), if_neg (by omega), if_neg (by omega)]
        exact e5.cg (congrFun (un_e (hU 44 (by omega))) 44) (fun k hk => ⟨congrFun (un_e (hU 38 (by omega))) k, congrFun (un_e (hU 40 (by omega))) k⟩)
  have wsU : WS U G β M4 := ws.grow hw hβ hm hiU (fun c hc => by
    rw [u9] at hc
    by_cases e : c < un τ 9 9
    · exact .inl e
    · obtain rfl : c = un τ 9 9 := by omega
      exact .inr blk) (fun g hg => .inl (by rw [un_e (hU 44 (by omega))] at hg; exact hg)) (fun k hk => .inl ⟨by rw [un_e (hU 17 (by omega))] at hk; exact hk, congrFun (un_e (hU 14 (by omega))) k⟩) (fun k hk => .inl (by rw [un_e (hU 51 (by omega))] at hk; exact hk)) lsw
  have ao : ∀ c, c < un τ 9 9 → CAg c τ U := fun c hc => ⟨fun k hk => un_cg (ko k hk c (by omega)), fun d hd => ⟨fun _ _ => un_cg (u7 _ (by omega)), congrFun (un_e (hU 8 (by omega))) _⟩⟩
  have hvp : ∀ r, r < 6 → r ≠ p → VP r τ U := fun r hr hne => ⟨hw, ⟨by rw [u9]; omega, fun c hc => by
      rw [u9] at hc
      by_cases e : c < un τ 9 9
      · rw [u0 c e]; exact ⟨fun y => ⟨e, y⟩, fun y => y.2⟩
      · obtain rfl : c = un τ 9 9 := by omega
        rw [s0]; exact ⟨fun y => absurd y.symm hne, fun y => absurd y.1 (by omega)⟩, fun c hc _ => ao c hc⟩,
    ⟨Nat.le_of_eq (congrFun (un_e (hU 17 (by omega))) 17).symm, fun k hk => by
      rw [un_e (hU 17 (by omega))] at hk
      rw [u014 k hk]; exact ⟨fun y => ⟨hk, y⟩, fun y => y.2⟩, fun k hk _ => ⟨congrFun (un_e (hU 14 (by omega))) k, congrFun (un_e (hU 15 (by omega))) k⟩, congrFun (un_e (hU 18 (by omega))) _, congrFun (un_e (hU 19 (by omega))) _, congrFun (un_e (hU 20 (by omega))) _⟩,
    VPe.of fun k h1 _ => hU k (by omega), VPt.of (fun k h1 _ => hU k (by omega)) (fun m _ => by rw [l2]), VPg.of fun k h1 _ => hU k (by omega)⟩
  obtain ⟨w1, w2, w3, w4, w5⟩ := wt
  have bp : bO α p 0 = bO β p 0 := (hβ _ (lv_b hp (by decide))).symm
  rw [bp]
  have ci : ∀ c, c < un τ 9 9 → ∀ o, o < 10 → mI M4 (cO α c o) = mI M (cO α c o) ∧ mL M4 (cO α c o) = mL M (cO α c o) := fun c hc o ho => st _ (lv_c hc ho) ⟨by omega, by omega⟩
  have wcn : WTc U β M4 (un τ 9 9) := by
    have a0 := zI0 0 (by decide) (by decide) (by decide)
    have a4 := zI0 4 (by decide) (by decide) (by decide)
    have e0 := hβn 0 (by decide)
    have e2 := hβn 2 (by decide)
    have e3 := hβn 3 (by decide)
    have e4 := hβn 4 (by decide)
    have m2 : mI M4 (z + 2) = mI M2 (z + 2) := (z4 2 (by decide)).2.2.1
    have m3 : mI M4 (z + 3) = mI M2 (z + 3) := (z4 3 (by decide)).2.2.1
    have pv : pyV U (un τ 9 9) = upV (fun _ => none) f (nI v) := by
      funext d
      unfold pyV upV
      rw [s2, s3]
      by_cases y : d = f
      · subst y; rw [if_pos rfl, u6s, if_pos ⟨by omega, by omega, nn32 (by omega)⟩]
      · rw [if_neg y]
        by_cases x : f ≤ d ∧ d ≤ t
        · rw [u6 _ (by omega), h6 d (by omega)]
          exact if_neg (fun h => absurd h.2.2 (by decide))
        · exact if_neg (fun h => x ⟨h.1, h.2.1⟩)
    refine ⟨⟨?_, ?_, ?_, ?_, ?_, ?_, fun d h1 h2 => ?_, fun d hd => ?_⟩, ?_, 0, fun _ => 0, ⟨fun i hi => absurd hi (Nat.not_lt_zero _), fun i j _ hj => absurd hj (Nat.not_lt_zero _), fun k hk hq => ?_⟩, ?_, fun j hj => absurd hj (Nat.not_lt_zero _)⟩
    · rw [e0, a0, s0]; rfl
    · rw [e0, a0, s1]; rfl
    · rw [e0, a0, s2]; rfl
    · rw [e0, a0, s3]; rfl
    · rw [e0, a0, s4]
      show nI b = bI (decide (b = 1))
      rcases (show b = 0 ∨ b = 1 by omega) with rfl | rfl <;> rfl
    · rw [e0, a0, s5]; rfl
    · rw [s2] at h1
      rw [s3] at h2
      rw [e2, m2, (sv d (by omega)).2, ← pv, ← (hwU.py (720 * un τ 9 9 + d) (by omega)).1, u7n d (by omega)]
      have m6 : ∀ d, d < 720 → (if 720 * un τ 9 9 + d = 720 * un τ 9 9 + f then (-1 : Int32) else U.1 6 (720 * un τ 9 9 + d)) = -1 := fun d hd => by
        by_cases x : 720 * un τ 9 9 + d = 720 * un τ 9 9 + f
        · rw [if_pos x]
        · rw [if_neg x, u6 _ x, h6 d hd]
      have k1 : ∀ n, lsV (fun _ => none) n = 0 := fun n => by
        induction n with
        | zero => rfl
        | succ n ih => exact ih
      have k2 : ∀ n, n ≤ 720 → spreadV (fun k x => if x = 720 * un τ 9 9 + f then -1 else U.1 k x, τ.2) (un τ 9 9) n = 0 := fun n => by
        induction n with
        | zero => intro _; rfl
        | succ n ih =>
          intro hn
          show (if 0 ≤ (if 720 * un τ 9 9 + n = 720 * un τ 9 9 + f then (-1 : Int32) else U.1 6 (720 * un τ 9 9 + n)) then (if 720 * un τ 9 9 + n = 720 * un τ 9 9 + f then (-1 : Int32) else U.1 6 (720 * un τ 9 9 + n)) else spreadV (fun k x => if x = 720 * un τ 9 9 + f then -1 else U.1 k x, τ.2) (un τ 9 9) n) = 0
          rw [m6 n (by omega), if_neg (by decide)]
          exact ih (by omega)
      have key := py_l (V := fun _ => none) (V' := pyV U (un τ 9 9)) (τ := (fun k x => if x = 720 * un τ 9 9 + f then -1 else U.1 k x, τ.2)) (σ := U) (c := un τ 9 9) (f := f) (t := t) (D := f) (p := v) (by omega) (fun d _ h => by
        show none = if 0 ≤ (if 720 * un τ 9 9 + d = 720 * un τ 9 9 + f then (-1 : Int32) else U.1 6 (720 * un τ 9 9 + d)) then _ else none
        rw [m6 d (by omega), if_neg (by decide)]) (fun d _ h => by rw [k1, k2 _ (by omega)]) (Nat.le_refl _) u6s (fun d hd => (if_neg (by omega)).symm) pv (d - f) (by omega)
      rw [show f + (d - f) + 1 = d + 1 by omega] at key
      exact key
    · rw [e4, a4, show un U 8 (720 * un τ 9 9 + d) = 0 from (congrFun (un_e (hU 8 (by omega))) _).trans (hw.mn1 _ (by omega) (by omega))]; rfl
    · rw [pv]
      unfold StV
      rw [e2, e3, m2, m3]
      exact sv
    · rw [un_e (hU 10 (by omega))] at hq
      rw [un_e (hU 13 (by omega))] at hk
      have := (hw.sc k hk).2
      omega
    · rw [e0, a0]; rfl
  refine ⟨ch_w (τ := τ) hwU hp wsU ⟨fun c hc => ?_, fun r hr => ?_, fun q hq => ?_, ?_, ?_⟩ (fun c hc hcz => ?_) hvp (fun r hr hne hz0 => ?_), k04⟩
  · rw [u9] at hc
    by_cases e : c < un τ 9 9
    · refine WTc.al (fun o ho => hβ _ (lv_c e ho)) (((w1 c e).cg (fun k _ => congrFun (ci c e 0 (by decide)).1 k) (fun o _ ho => (ci c e o (by omega)).1)).ag hw e (ao c e) (fun d hd => u6 _ (by omega)) ?_)
      obtain ⟨_, _, sn, sk, a1, a2, a3⟩ := w1 c e
      rw [un_e (hU 10 (by omega)), un_e (hU 11 (by omega)), un_e (hU 12 (by omega)), un_e (hU 13 (by omega)), (ci c e 0 (by decide)).1, (ci c e 5 (by decide)).1, (ci c e 6 (by decide)).1]
      exact ⟨sn, sk, a1, a2, a3⟩
    · obtain rfl : c = un τ 9 9 := by omega
      exact wcn
  · exact (((w2 r hr).cg2 (fun o h1 ho => (st _ (lv_h hr (show o < 57 by omega)) ⟨by omega, by omega⟩).1) (fun o h1 ho => (st _ (lv_h hr (show o < 57 by omega)) ⟨by omega, by omega⟩).2)).u (hU 30 (by omega)) (hU 36 (by omega)) (hU 37 (by omega)) (hU 47 (by omega)) (hU 50 (by omega)) (hU 51 (by omega)) (l2 45) (l2 49)).al (fun o ho => hβ _ (lv_h hr (show o < 57 by omega)))
  · exact (((w3 q hq).cg (fun o ho => (st _ (lv_g hq ho) ⟨by omega, by omega⟩).1) (fun o ho => (st _ (lv_g hq ho) ⟨by omega, by omega⟩).2)).u (hU 31 (by omega)) (hU 32 (by omega)) (hU 33 (by omega)) (hU 34 (by omega)) (hU 35 (by omega)) (hU 54 (by omega)) (l2 52) (l2 53)).al (fun o ho => hβ _ (lv_g hq ho))
  · refine WTx.al (fun o ho => hβ o (lv_s (by omega))) ?_
    obtain ⟨b1, b2, b3, b4, b5, b6, b7⟩ := w4
    unfold WTx
    rw [(st 0 (lv_s (by decide)) ⟨by omega, by omega⟩).1, un_e (hU 13 (by omega)), un_e (hU 17 (by omega)), un_e (hU 18 (by omega)), un_e (hU 19 (by omega)), un_e (hU 20 (by omega)), un_e (hU 46 (by omega))]
    exact ⟨b1, b2, b3, b4, b5, b6, (b7.cgs (fun o ho => (st (4 + o) (lv_s (by omega)) ⟨by omega, by omega⟩).1)).u (hU 22 (by omega)) (hU 23 (by omega)) (hU 24 (by omega)) (hU 25 (by omega)) (hU 26 (by omega)) (hU 27 (by omega))⟩
  · have y := (w5.cg (M1 := M4) (fun k hk => congrFun (st _ (lv_l hk) ⟨by omega, by omega⟩).1 1) (fun g hg => (st _ (lv_a hg (show 0 < 2 by decide)) ⟨by omega, by omega⟩).1) (fun k hk => st _ (lv_y hk) ⟨by omega, by omega⟩)).al hw hβ
    exact y.u (hU 15 (by omega)) (hU 17 (by omega)) (fun k a _ => hU k (by omega)) (hU 47 (by omega)) (hU 48 (by omega)) (hU 50 (by omega)) (hU 51 (by omega)) (l2 49)
  · rw [u9] at hc
    by_cases e : c < un τ 9 9
    · rw [show cO β c 0 = cO α c 0 from hβ _ (lv_c e (by decide)), (ci c e 0 (by decide)).1] at hcz
      have g := (ao c e).cw hw e (wb.1 c e hcz)
      intro m hm
      rw [show cO β c 7 = cO α c 7 from hβ _ (lv_c e (by decide)), show cO β c 8 = cO α c 8 from hβ _ (lv_c e (by decide)), (ci c e 7 (by decide)).2, (ci c e 8 (by decide)).1]
      exact g m hm
    · obtain rfl : c = un τ 9 9 := by omega
      rw [hβn 0 (by decide), zI0 0 (by decide) (by decide) (by decide)] at hcz
      exact absurd (show (nI 1 : Int32) = 0 from hcz) (by decide)
  · have nb' : ∀ o, o < 42 → mI M4 (bO α r o) = mI M (bO α r o) ∧ mL M4 (bO α r o) = mL M (bO α r o) := fun o ho => st _ (lv_b hr ho) ⟨by omega, by omega⟩
    refine BF.al hr hβ (BF.cg nb' (fun g hg _ => (st _ (lv_a hg (show 1 < 2 by decide)) ⟨by omega, by omega⟩).2) (fun c hc _ => ⟨(ci c hc 8 (by decide)).1, (ci c hc 7 (by decide)).2, (ci c hc 9 (by decide)).2⟩) (fun k hk _ => congrFun (st _ (lv_l hk) ⟨by omega, by omega⟩).1 2) (wb.2 r hr ?_))
    rw [← (nb' 0 (by decide)).1, ← show bO β r 0 = bO α r 0 from hβ _ (lv_b hr (by decide))]
    exact hz0

