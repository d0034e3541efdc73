/-! WORLD: lists together; other codes -/
/-- the kinds of the lists' elements -/
def lsC (k : Nat) : Nat := if k = 1 then 5 else if k = 27 then 7 else if k = 28 then 9 else if (k - 29) % 57 = 1 then 5 else if (k - 29) % 57 = 2 then 8 else 7
def LZ (G : gW) (α : Nat → Nat) (M : Mem) (sz : Nat → Nat) (el : Nat → Nat → Nat) : Prop := (∀ k, LC k → LI G M (lsC k) (α k) (sz k) (el k)) ∧ ∀ i j, LC i → LC j → i ≠ j → ∀ d, mR M (α i) 1 = some d → mR M (α j) 1 = some d → d = gS G 0
theorem lc_p {p o : Nat} (hp : p < 6) (h1 : 1 ≤ o) (h2 : o < 4) : LC (29 + 57 * p + o) := .inr (.inr (.inr ⟨p, o, hp, h1, h2, rfl⟩))
theorem lsC_p {p o : Nat} (hp : p < 6) (h1 : 1 ≤ o) (h2 : o < 4) : lsC (29 + 57 * p + o) = if o = 1 then 5 else if o = 2 then 8 else 7 := by
  unfold lsC
  rw [if_neg (by omega), if_neg (by omega), if_neg (by omega), show (29 + 57 * p + o - 29) % 57 = o by omega]
theorem LC.lt {k : Nat} (h : LC k) : k < 476 := by rcases h with rfl | rfl | rfl | ⟨q, o, h1, h2, h3, rfl⟩ <;> omega
theorem LC.lv {τ : Mu} {k : Nat} (h : LC k) : LV τ k := lv_s h.lt
section LZs
variable {τ U : Mu} {G : gW} {α β : Nat → Nat} {M M' : Mem} {sz sz' : Nat → Nat} {el el' : Nat → Nat → Nat}
theorem LI.sm {ci a s : Nat} {e e' : Nat → Nat} (h : LI G M ci a s e) (k1 : mK M' a = mK M a) (k2 : mI M' a 2 = mI M a 2) (k3 : mR M' a 1 = mR M a 1) (he : ∀ i, i < s → mK M' (e i) = mK M (e i)) (hd : ∀ d, mR M a 1 = some d → mK M d = 26 → mK M' d = mK M d ∧ mN M' d = mN M d ∧ mR M' d = mR M d) (e2 : ∀ i, i < s → e' i = e i) : LI G M' ci a s e' := by
  obtain ⟨h1, h2, h3, d, h4, h5⟩ := h
  refine ⟨k1.trans h1, k2.trans h2, fun i hi => by rw [e2 i hi]; exact (he i hi).trans (h3 i hi), d, k3.trans h4, ?_⟩
  rcases h5 with h5 | ⟨p1, p2, p3, p4, p5⟩
  · exact .inl h5
  · obtain ⟨q1, q2, q3⟩ := hd d h4 p1
    exact .inr ⟨q1.trans p1, by rw [q2]; exact p2, by rw [q2]; exact p3, by rw [q2]; exact p4, fun i hi => by rw [q3, e2 i hi]; exact p5 i hi⟩
theorem LZ.cg (h : LZ G α M sz el) (e1 : ∀ k, LC k → sz' k = sz k) (e2 : ∀ k, LC k → ∀ i, i < sz k → el' k i = el k i) : LZ G α M sz' el' :=
  ⟨fun k hk => by rw [e1 k hk]; exact (h.1 k hk).sm rfl rfl rfl (fun _ _ => rfl) (fun _ _ _ => ⟨rfl, rfl, rfl⟩) (e2 k hk), h.2⟩
/-- lists that stay -/
theorem LZ.kp {A B : Nat → Prop} (h : LZ G α M sz el) (kp : KP A B M M') (hA : ∀ k, LC k → ¬ A (α k)) (hB : ∀ x, mK M x = 26 ∨ (∃ k, LC k ∧ x = α k) → ¬ B x) : LZ G α M' sz el := by
  have kk : ∀ k, LC k → mK M (α k) ≠ 0 := fun k hk => by rw [(h.1 k hk).1]; decide
  refine ⟨fun k hk => (h.1 k hk).sm (kp _ (kk k hk)).1 (congrFun ((kp _ (kk k hk)).2.2.1 (hA k hk)).1 2) (congrFun ((kp _ (kk k hk)).2.2.2 (hB _ (.inr ⟨k, hk, rfl⟩))) 1) (fun i hi => (kp _ (by rw [(h.1 k hk).2.2.1 i hi]; omega)).1) (fun d _ h2 => ?_) (fun _ _ => rfl), fun i j hi hj hij d h1 h2 => ?_⟩
  · obtain ⟨q1, q2, _, q4⟩ := kp d (by rw [h2]; decide)
    exact ⟨q1, q2, q4 (hB d (.inl h2))⟩
  · rw [(kp _ (kk i hi)).2.2.2 (hB _ (.inr ⟨i, hi, rfl⟩))] at h1
    rw [(kp _ (kk j hj)).2.2.2 (hB _ (.inr ⟨j, hj, rfl⟩))] at h2
    exact h.2 i j hi hj hij d h1 h2
/-- one list grows -/
theorem LZ.add {k0 d s' : Nat} {e' : Nat → Nat} (h : LZ G α M sz el) (hi : ∀ i j, LC i → LC j → α i = α j → i = j) (h0 : LC k0) (hd : mR M (α k0) 1 = some d) (hst : mK M (gS G 0) = 0) (hL : LI G M' (lsC k0) (α k0) s' e') (hF : LF M M' (α k0) d) : LZ G α M' (fun k => if k = k0 then s' else sz k) (fun k => if k = k0 then e' else el k) := by
  have kk : ∀ k, LC k → mK M (α k) ≠ 0 := fun k hk => by rw [(h.1 k hk).1]; decide
  obtain ⟨_, ⟨d', f1, f2, f3⟩, fx⟩ := hF
  have nd : ∀ k, LC k → k ≠ k0 → ∀ x, mR M (α k) 1 = some x → mK M x = 26 → x ≠ d := fun k hk hn x h1 h2 e => by
    have := h.2 k k0 hk h0 hn x h1 (e ▸ hd)
    rw [this, hst] at h2; cases h2
  have ad : ∀ k, LC k → α k ≠ d := fun k hk e => by
    rcases (h.1 k0 h0).hcase hd with ⟨_, q⟩ | ⟨q, _⟩
    · rw [q] at e; exact kk k hk (e ▸ hst)
    · rw [← e, (h.1 k hk).1] at q; cases q
  have rr : ∀ k, LC k → k ≠ k0 → mR M' (α k) = mR M (α k) := fun k hk hn => (fx _ (kk k hk)).2.2.2.2 (fun e => hn (hi _ _ hk h0 e)) (ad k hk)
  refine ⟨fun k hk => ?_, fun i j h1 h2 hij x hx1 hx2 => ?_⟩
  · by_cases e : k = k0
    · subst e
      show LI G M' (lsC k) (α k) (if k = k then s' else sz k) (if k = k then e' else el k)
      rw [if_pos rfl, if_pos rfl]; exact hL
    · show LI G M' (lsC k) (α k) (if k = k0 then s' else sz k) (if k = k0 then e' else el k)
      rw [if_neg e, if_neg e]
      have ne : α k ≠ α k0 := fun z => e (hi _ _ hk h0 z)
      refine (h.1 k hk).sm (fx _ (kk k hk)).1 (congrFun ((fx _ (kk k hk)).2.2.2.1 ne) 2) (congrFun (rr k hk e) 1) (fun i hi => (fx _ (by rw [(h.1 k hk).2.2.1 i hi]; omega)).1) (fun x q1 q2 => ?_) (fun _ _ => rfl)
      obtain ⟨g1, g2, _, _, g5⟩ := fx x (by rw [q2]; decide)
      exact ⟨g1, g2, g5 (fun z => by rw [z, (h.1 k0 h0).1] at q2; cases q2) (nd k hk e x q1 q2)⟩
  · have key : ∀ i j, LC i → LC j → i ≠ j → j = k0 → ∀ x, mR M' (α i) 1 = some x → mR M' (α j) 1 = some x → x = gS G 0 := by
      intro i j h1 h2 hij e x hx1 hx2
      subst e
      rw [rr i h1 hij] at hx1
      have e2 : x = d' := Option.some.inj (hx2.symm.trans f1)
      subst e2
      rcases (h.1 i h1).hcase hx1 with ⟨_, q⟩ | ⟨q, _⟩
      · exact q
      · rcases f3 with f3 | f3
        · rw [f3] at q; cases q
        · exact absurd f3 (nd i h1 hij x hx1 q)
    by_cases e : j = k0
    · exact key i j h1 h2 hij e x hx1 hx2
    · by_cases e2 : i = k0
      · exact key j i h2 h1 (fun z => hij z.symm) e2 x hx2 hx1
      · rw [rr i h1 e2] at hx1
        rw [rr j h2 e] at hx2
        exact h.2 i j h1 h2 hij x hx1 hx2
end LZs
/-- the lists of a world, by functions -/
def LSW (τ : Mu) (G : gW) (α : Nat → Nat) (M : Mem) (sz : Nat → Nat) (el ix : Nat → Nat → Nat) : Prop := LZ G α M sz el ∧ (sz 1 = un τ 9 9 ∧ el 1 = fun c => cO α c 0) ∧ (sz 27 = un τ 44 44 ∧ el 27 = fun g => aO α g 0) ∧ (sz 28 = un τ 51 51 ∧ el 28 = yO α) ∧
  ∀ p, p < 6 → (EnN (fun c => un τ 0 c = p) (un τ 9 9) (sz (29 + 57 * p + 1)) (ix (29 + 57 * p + 1)) ∧ el (29 + 57 * p + 1) = fun i => cO α (ix (29 + 57 * p + 1) i) 0) ∧ (EnL τ p (sz (29 + 57 * p + 2)) (ix (29 + 57 * p + 2)) ∧ el (29 + 57 * p + 2) = fun i => lO α (ix (29 + 57 * p + 2) i)) ∧ (EnG τ p (sz (29 + 57 * p + 3)) (ix (29 + 57 * p + 3)) ∧ el (29 + 57 * p + 3) = fun i => aO α (ix (29 + 57 * p + 3) i) 0)
theorem WS.ls {τ : Mu} {G : gW} {α : Nat → Nat} {M : Mem} (ws : WS τ G α M) : ∃ sz el ix, LSW τ G α M sz el ix := by
  have l1 := ws.2.2.2.2.2.2.2.2.1
  have l27 := ws.2.2.2.2.2.2.2.2.2.1
  have l28 := ws.2.2.2.2.2.2.2.2.2.2.1
  have pw := ws.2.2.2.2.2.2.2.2.2.2.2.1
  have ds := ws.2.2.2.2.2.2.2.2.2.2.2.2
  have ch : ∀ k, ∃ x : Nat × (Nat → Nat) × (Nat → Nat), (k = 1 → x.1 = un τ 9 9 ∧ x.2.1 = fun c => cO α c 0) ∧ (k = 27 → x.1 = un τ 44 44 ∧ x.2.1 = fun g => aO α g 0) ∧ (k = 28 → x.1 = un τ 51 51 ∧ x.2.1 = yO α) ∧
      ∀ p, p < 6 → (k = 29 + 57 * p + 1 → LI G M 5 (α k) x.1 x.2.1 ∧ EnN (fun c => un τ 0 c = p) (un τ 9 9) x.1 x.2.2 ∧ x.2.1 = fun i => cO α (x.2.2 i) 0) ∧ (k = 29 + 57 * p + 2 → LI G M 8 (α k) x.1 x.2.1 ∧ EnL τ p x.1 x.2.2 ∧ x.2.1 = fun i => lO α (x.2.2 i)) ∧ (k = 29 + 57 * p + 3 → LI G M 7 (α k) x.1 x.2.1 ∧ EnG τ p x.1 x.2.2 ∧ x.2.1 = fun i => aO α (x.2.2 i) 0) := by
    intro k
    by_cases e1 : k = 1
    · exact ⟨(un τ 9 9, fun c => cO α c 0, fun _ => 0), fun _ => ⟨rfl, rfl⟩, fun z => by omega, fun z => by omega, fun p hp => ⟨fun z => by omega, fun z => by omega, fun z => by omega⟩⟩
    · by_cases e2 : k = 27
      · exact ⟨(un τ 44 44, fun c => aO α c 0, fun _ => 0), fun z => by omega, fun _ => ⟨rfl, rfl⟩, fun z => by omega, fun p hp => ⟨fun z => by omega, fun z => by omega, fun z => by omega⟩⟩
      · by_cases e3 : k = 28
        · exact ⟨(un τ 51 51, yO α, fun _ => 0), fun z => by omega, fun z => by omega, fun _ => ⟨rfl, rfl⟩, fun p hp => ⟨fun z => by omega, fun z => by omega, fun z => by omega⟩⟩
        · by_cases e4 : ∃ p o, p < 6 ∧ 1 ≤ o ∧ o < 4 ∧ k = 29 + 57 * p + o
          · obtain ⟨p, o, hp, h1, h2, rfl⟩ := e4
            obtain ⟨nc, cn, nl, ln, ng, gn, a1, a2, a3, a4, a5, a6⟩ := pw p hp
            rcases (show o = 1 ∨ o = 2 ∨ o = 3 by omega) with rfl | rfl | rfl
            · refine ⟨(nc, fun i => cO α (cn i) 0, cn), fun z => by omega, fun z => by omega, fun z => by omega, fun r hr => ⟨fun z => ?_, fun z => by omega, fun z => by omega⟩⟩
              obtain rfl : r = p := by omega
              exact ⟨a4, a1, rfl⟩
            · refine ⟨(nl, fun i => lO α (ln i), ln), fun z => by omega, fun z => by omega, fun z => by omega, fun r hr => ⟨fun z => by omega, fun z => ?_, fun z => by omega⟩⟩
              obtain rfl : r = p := by omega
              exact ⟨a5, a2, rfl⟩
            · refine ⟨(ng, fun i => aO α (gn i) 0, gn), fun z => by omega, fun z => by omega, fun z => by omega, fun r hr => ⟨fun z => by omega, fun z => by omega, fun z => ?_⟩⟩
              obtain rfl : r = p := by omega
              exact ⟨a6, a3, rfl⟩
          · exact ⟨(0, fun _ => 0, fun _ => 0), fun z => by omega, fun z => by omega, fun z => by omega, fun p hp => ⟨fun z => absurd ⟨p, 1, hp, by omega, by omega, z⟩ e4, fun z => absurd ⟨p, 2, hp, by omega, by omega, z⟩ e4, fun z => absurd ⟨p, 3, hp, by omega, by omega, z⟩ e4⟩⟩
  obtain ⟨F, hF⟩ := Classical.axiomOfChoice ch
  refine ⟨fun k => (F k).1, fun k => (F k).2.1, fun k => (F k).2.2, ⟨fun k hk => ?_, ds⟩, (hF 1).1 rfl, (hF 27).2.1 rfl, (hF 28).2.2.1 rfl, fun p hp => ⟨((hF _).2.2.2 p hp).1 rfl |>.2, ((hF _).2.2.2 p hp).2.1 rfl |>.2, ((hF _).2.2.2 p hp).2.2 rfl |>.2⟩⟩
  show LI G M (lsC k) (α k) (F k).1 (F k).2.1
  rcases hk with rfl | rfl | rfl | ⟨p, o, hp, h1, h2, rfl⟩
  · obtain ⟨e1, e2⟩ := (hF 1).1 rfl
    rw [e1, e2]; exact l1
  · obtain ⟨e1, e2⟩ := (hF 27).2.1 rfl
    rw [e1, e2]; exact l27
  · obtain ⟨e1, e2⟩ := (hF 28).2.2.1 rfl
    rw [e1, e2]; exact l28
  · rw [lsC_p hp h1 h2]
    have g := (hF (29 + 57 * p + o)).2.2.2 p hp
    rcases (show o = 1 ∨ o = 2 ∨ o = 3 by omega) with rfl | rfl | rfl
    · exact (g.1 rfl).1
    · exact (g.2.1 rfl).1
    · exact (g.2.2 rfl).1
section Grow
variable {τ U : Mu} {G : gW} {α β : Nat → Nat} {M M' : Mem}
/-- codes in use lie at cells that are there -/
theorem WS.kn (ws : WS τ G α M) {k : Nat} (hk : LV τ k) : mK M (α k) ≠ 0 := by
  obtain ⟨_, a2, a3, a4, a5, a6, a7, a8, _⟩ := ws
  have key : ∀ {T : BT} {f : Nat → Nat}, Blk T (mK M) (mN M) (mR M) f → (List.range T.1.length).all (fun o => T.1.getD o 0 != 0) = true → ∀ o, o < T.1.length → mK M (f o) ≠ 0 := fun {T f} b c o ho => by
    rw [(b.1 o ho).1]
    have := List.all_eq_true.mp c o (List.mem_range.mpr ho)
    simpa using this
  by_cases h1 : k < 29
  · exact key a2 rfl k h1
  · by_cases h2 : k < 371
    · have b := (a3 ((k - 29) / 57) (by omega)).1
      have := key b rfl ((k - 29) % 57) (show (k - 29) % 57 < 57 by omega)
      unfold hO at this
      rw [show 29 + 57 * ((k - 29) / 57) + (k - 29) % 57 = k by omega] at this
      exact this
    · by_cases h3 : k < 476
      · have b := (a4 ((k - 371) / 35) (by omega)).1
        have := key b rfl ((k - 371) % 35) (show (k - 371) % 35 < 35 by omega)
        unfold gO at this
        rw [show 371 + 35 * ((k - 371) / 35) + (k - 371) % 35 = k by omega] at this
        exact this
      · rcases hk with hk | hk | hk | hk | hk
        · omega
        · have b := a5 ((k - 1000) / 10) (by omega)
          have := key b rfl ((k - 1000) % 10) (show (k - 1000) % 10 < 10 by omega)
          unfold cO at this
          rw [show 1000 + 10 * ((k - 1000) / 10) + (k - 1000) % 10 = k by omega] at this
          exact this
        · have b := a6 ((k - 1100) / 2) (by omega)
          have := key b rfl ((k - 1100) % 2) (show (k - 1100) % 2 < 2 by omega)
          unfold aO at this
          rw [show 1100 + 2 * ((k - 1100) / 2) + (k - 1100) % 2 = k by omega] at this
          exact this
        · have := (a7 (k - 1200) (by omega)).1
          unfold lO at this
          rw [show 1200 + (k - 1200) = k by omega] at this
          rw [this]; decide
        · have := a8 (k - 1300) (by omega)
          unfold yO at this
          rw [show 1300 + (k - 1300) = k by omega] at this
          rw [this]; decide
theorem INJ.new {s n z : Nat} (hi : INJ τ α) (hlt : ∀ k, LV τ k → α k < z) (h1 : ∀ k, LV U k → LV τ k ∨ (s ≤ k ∧ k < s + n)) (h2 : ∀ k, LV τ k → ¬ (s ≤ k ∧ k < s + n)) : INJ U (nw α s n z) := by
  intro i j hi2 hj2 e
  rcases h1 i hi2 with a | a
  · rcases h1 j hj2 with b | b
    · rw [nw_o (h2 i a), nw_o (h2 j b)] at e; exact hi i j a b e
    · rw [nw_o (h2 i a), show nw α s n z j = z + (j - s) from if_pos b] at e
      have := hlt i a; omega
  · rcases h1 j hj2 with b | b
    · rw [nw_o (h2 j b), show nw α s n z i = z + (i - s) from if_pos a] at e
      have := hlt j b; omega
    · rw [show nw α s n z i = z + (i - s) from if_pos a, show nw α s n z j = z + (j - s) from if_pos b] at e
      omega
/-- the shape of a grown world -/
theorem WS.grow (hw : WF τ) (ws : WS τ G α M) (hβ : ∀ k, LV τ k → β k = α k) (hm : ∀ k, LV τ k → mK M' (α k) = mK M (α k) ∧ mN M' (α k) = mN M (α k) ∧ (¬ LC k → mR M' (α k) = mR M (α k))) (hi : INJ U β)
    (hc : ∀ c, c < un U 9 9 → c < un τ 9 9 ∨ Blk tbCo (mK M') (mN M') (mR M') (cO β c)) (hg : ∀ g, g < un U 44 44 → g < un τ 44 44 ∨ Blk tbGa (mK M') (mN M') (mR M') (aO β g)) (hl : ∀ k, k < un U 17 17 → (k < un τ 17 17 ∧ un U 14 k = un τ 14 k) ∨ (mK M' (lO β k) = 9 ∧ mR M' (lO β k) 0 = some (cO β (un U 14 k) 0))) (hy : ∀ k, k < un U 51 51 → k < un τ 51 51 ∨ mK M' (yO β k) = 10)
    {sz : Nat → Nat} {el ix : Nat → Nat → Nat} (ls : LSW U G β M' sz el ix) : WS U G β M' := by
  have h9 := hw.nc.2
  have ls1 := ls.1.1
  obtain ⟨a1, a2, a3, a4, a5, a6, a7, a8, _⟩ := ws
  have nlc : ∀ k, k < 476 → ¬ LC k ∨ LC k := fun k _ => (Classical.em (LC k)).symm
  refine ⟨hi, ?_, fun p hp => ⟨?_, ?_⟩, fun q hq => ⟨?_, ?_⟩, fun c hc2 => ?_, fun g hg2 => ?_, fun k hk => ?_, fun k hk => ?_, ?_, ?_, ?_, fun p hp => ?_, ls.1.2⟩
  · refine a2.xf rfl (fun o ho => ⟨hβ o (lv_s (by have : tbX.1.length = 29 := rfl; omega)), (hm o (lv_s (by have : tbX.1.length = 29 := rfl; omega))).1, (hm o (lv_s (by have : tbX.1.length = 29 := rfl; omega))).2.1⟩) (fun r hr => ?_)
    have c : tbX.2.2.all (fun r => decide (r.1 < 29) && (r.1 != 1 && (r.1 != 27 && r.1 != 28))) = true := rfl
    have t := List.all_eq_true.mp c r hr
    simp only [Bool.and_eq_true, decide_eq_true_eq, bne_iff_ne] at t
    exact congrFun ((hm r.1 (lv_s (by omega))).2.2 (by rintro (z | z | z | ⟨q, o, h1, h2, h3, z⟩) <;> omega)) _
  · refine (a3 p hp).1.xf rfl (fun o ho => ?_) (fun r hr => ?_)
    · have : o < 57 := ho
      exact ⟨hβ _ (lv_h hp this), (hm _ (lv_h hp this)).1, (hm _ (lv_h hp this)).2.1⟩
    · have c : tbPe.2.2.all (fun r => decide (r.1 < 57) && (r.1 != 1 && (r.1 != 2 && r.1 != 3))) = true := rfl
      have t := List.all_eq_true.mp c r hr
      simp only [Bool.and_eq_true, decide_eq_true_eq, bne_iff_ne] at t
      exact congrFun ((hm _ (lv_h hp t.1)).2.2 (by rintro (z | z | z | ⟨q, o, h1, h2, h3, z⟩) <;> omega)) _
  · rw [hβ 2 (lv_s (by decide)), (hm 2 (lv_s (by decide))).2.2 (by rintro (z | z | z | ⟨q, o, h1, h2, h3, z⟩) <;> omega), show hO β p 0 = hO α p 0 from hβ _ (lv_h hp (by decide))]
    exact (a3 p hp).2
  · refine (a4 q hq).1.xf rfl (fun o ho => ?_) (fun r hr => ?_)
    · have : o < 35 := ho
      exact ⟨hβ _ (lv_g hq this), (hm _ (lv_g hq this)).1, (hm _ (lv_g hq this)).2.1⟩
    · have c : tbPl.2.2.all (fun r => decide (r.1 < 35)) = true := rfl
      have t := List.all_eq_true.mp c r hr
      simp only [decide_eq_true_eq] at t
      exact congrFun ((hm _ (lv_g hq t)).2.2 (by rintro (z | z | z | ⟨q, o, h1, h2, h3, z⟩) <;> omega)) _
  · rw [hβ 3 (lv_s (by decide)), (hm 3 (lv_s (by decide))).2.2 (by rintro (z | z | z | ⟨q, o, h1, h2, h3, z⟩) <;> omega), show gO β q 0 = gO α q 0 from hβ _ (lv_g hq (by decide))]
    exact (a4 q hq).2
  · rcases hc c hc2 with h | h
    · refine (a5 c h).xf rfl (fun o ho => ?_) (fun r hr => ?_)
      · have : o < 10 := ho
        exact ⟨hβ _ (lv_c h this), (hm _ (lv_c h this)).1, (hm _ (lv_c h this)).2.1⟩
      · have c : tbCo.2.2.all (fun r => decide (r.1 < 10)) = true := rfl
        have t := List.all_eq_true.mp c r hr
        simp only [decide_eq_true_eq] at t
        exact congrFun ((hm _ (lv_c h t)).2.2 (by rintro (z | z | z | ⟨q, o, h1, h2, h3, z⟩) <;> omega)) _
    · exact h
  · rcases hg g hg2 with h | h
    · refine (a6 g h).xf rfl (fun o ho => ?_) (fun r hr => ?_)
      · have : o < 2 := ho
        exact ⟨hβ _ (lv_a h this), (hm _ (lv_a h this)).1, (hm _ (lv_a h this)).2.1⟩
      · have c : tbGa.2.2.all (fun r => decide (r.1 < 2)) = true := rfl
        have t := List.all_eq_true.mp c r hr
        simp only [decide_eq_true_eq] at t
        exact congrFun ((hm _ (lv_a h t)).2.2 (by rintro (z | z | z | ⟨q, o, h1, h2, h3, z⟩) <;> omega)) _
    · exact h
  · rcases hl k hk with ⟨h, h2⟩ | h
    · have lk := lv_l h
      rw [show lO β k = lO α k from hβ _ lk, h2, show cO β (un τ 14 k) 0 = cO α (un τ 14 k) 0 from hβ _ (lv_c (hw.lc k h).2 (by decide)), show mR M' (lO α k) = mR M (lO α k) from (hm _ lk).2.2 (fun z => by have := z.lt; omega)]
      exact ⟨(hm _ lk).1.trans (a7 k h).1, (a7 k h).2⟩
    · exact h
  · rcases hy k hk with h | h
    · have lk := lv_y h
      rw [show yO β k = yO α k from hβ _ lk]
      exact (hm _ lk).1.trans (a8 k h)
    · exact h
  · have := ls1 1 (.inl rfl)
    rw [ls.2.1.1, ls.2.1.2] at this; exact this
  · have := ls1 27 (.inr (.inl rfl))
    rw [ls.2.2.1.1, ls.2.2.1.2] at this; exact this
  · have := ls1 28 (.inr (.inr (.inl rfl)))
    rw [ls.2.2.2.1.1, ls.2.2.2.1.2] at this; exact this
  · obtain ⟨⟨e1, e2⟩, ⟨e3, e4⟩, ⟨e5, e6⟩⟩ := ls.2.2.2.2 p hp
    have g1 := ls1 _ (lc_p hp (show 1 ≤ 1 by decide) (by decide))
    have g2 := ls1 _ (lc_p hp (show 1 ≤ 2 by decide) (by decide))
    have g3 := ls1 _ (lc_p hp (show 1 ≤ 3 by decide) (by decide))
    rw [lsC_p hp (by decide) (by decide), e2] at g1
    rw [lsC_p hp (by decide) (by decide), e4] at g2
    rw [lsC_p hp (by decide) (by decide), e6] at g3
    exact ⟨_, _, _, _, _, _, e1, e3, e5, g1, g2, g3⟩
end Grow
section Als
variable {τ : Mu} {α β : Nat → Nat} {M : Mem}
theorem WTc.al {c : Nat} (e : ∀ o, o < 10 → cO β c o = cO α c o) (w : WTc τ α M c) : WTc τ β M c := by
  unfold WTc CoF at w ⊢
  rw [e 0 (by decide), e 2 (by decide), e 3 (by decide), e 4 (by decide), e 5 (by decide), e 6 (by decide)]
  exact w
theorem WTp.al {p : Nat} (e : ∀ o, o < 15 → hO β p o = hO α p o) (w : WTp τ α M p) : WTp τ β M p := by
  unfold WTp at w ⊢
  rw [e 0 (by decide), e 5 (by decide), e 6 (by decide), e 8 (by decide), e 9 (by decide), e 14 (by decide)]
  exact ⟨w.1, w.2.1, w.2.2.1, fun q hq m hm => by rw [e (11 + q) (by omega)]; exact w.2.2.2.1 q hq m hm, w.2.2.2.2⟩
theorem WTq.al {q : Nat} (e : ∀ o, o < 35 → gO β q o = gO α q o) (w : WTq τ α M q) : WTq τ β M q := by
  obtain ⟨w1, w2, w3, w4⟩ := w
  refine ⟨?_, ?_, fun s hs => ?_, fun m hm => ?_⟩
  · rw [e 2 (by decide), e 3 (by decide)]; exact w1
  · rw [e 5 (by decide), e 6 (by decide)]; exact w2
  · obtain ⟨b1, b2, b3⟩ := w3 s hs
    refine ⟨fun k hk => ?_, fun b hb k hk => ?_, fun b hb k hk => ?_⟩
    · show mI M (gO β q (11 + 12 * s + 1)) k = _
      rw [e _ (by omega)]; exact b1 k hk
    · show mI M (gO β q (11 + 12 * s + (3 + b))) k = _
      rw [e _ (by omega)]; exact b2 b hb k hk
    · show mI M (gO β q (11 + 12 * s + (8 + b))) k = _
      rw [e _ (by omega)]; exact b3 b hb k hk
  · rw [e 8 (by decide), e 9 (by decide), e 10 (by decide)]; exact w4 m hm
theorem ElF.al {i : Nat → Nat → Int32} {f g : Nat → Nat} (e : ∀ o, o < 21 → g o = f o) (w : ElF τ i f) : ElF τ i g := by
  obtain ⟨a0, a1, a2, a3, a4, a5, a6, a7⟩ := w
  refine ⟨by rw [e 0 (by decide)]; exact a0, by rw [e 0 (by decide)]; exact a1, fun x hx k hk => by rw [e (2 + x) (by omega)]; exact a2 x hx k hk, fun x hx k hk => by rw [e (10 + x) (by omega)]; exact a3 x hx k hk, ?_, ?_, ?_, ?_⟩
  · rw [e 17 (by decide)]; exact a4
  · rw [e 18 (by decide)]; exact a5
  · rw [e 19 (by decide)]; exact a6
  · rw [e 20 (by decide)]; exact a7
theorem WTx.al (e : ∀ o, o < 29 → β o = α o) (w : WTx τ α M) : WTx τ β M := by
  unfold WTx at w ⊢
  rw [e 0 (by decide)]
  obtain ⟨b1, b2, b3, b4, b5, b6, b7⟩ := w
  exact ⟨b1, b2, b3, b4, b5, b6, b7.al fun o ho => e (4 + o) (by omega)⟩
theorem CoW.al {c : Nat} (e : ∀ o, o < 10 → cO β c o = cO α c o) (w : CoW τ c (mI M) (mL M) (cO α c)) : CoW τ c (mI M) (mL M) (cO β c) := by
  intro m hm
  rw [e 7 (by decide), e 8 (by decide)]
  exact w m hm
end Als
