/-! WORLD: growth, together -/
theorem Blk.kp {T : BT} {A B : Nat → Prop} {M M' : Mem} {f : Nat → Nat} (h : Blk T (mK M) (mN M) (mR M) f) (k : KP A B M M') (h0 : ∀ o, o < T.1.length → mK M (f o) ≠ 0) (wf : (T.2.2.all (fun r => decide (r.1 < T.1.length) && decide (r.2.2 < T.1.length))) = true) (hB : ∀ r ∈ T.2.2, ¬ B (f r.1)) : Blk T (mK M') (mN M') (mR M') f :=
  h.xf wf (fun o ho => ⟨rfl, (k _ (h0 o ho)).1, (k _ (h0 o ho)).2.1⟩) (fun r hr => by
    have w := List.all_eq_true.mp wf r hr
    rw [Bool.and_eq_true, decide_eq_true_iff] at w
    exact congrFun ((k _ (h0 _ w.1)).2.2.2 (hB r hr)) _)
section Gr2
variable {τ U : Mu} {G : gW} {α β : Nat → Nat} {M M' : Mem}
theorem WS.kn6 (ws : WS τ G α M) {k : Nat} (hk : LV τ k) : mK M (α k) ≠ 26 := by
  obtain ⟨_, a2, a3, a4, a5, a6, a7, a8, _⟩ := ws
  have key : ∀ {T : BT} {f : Nat → Nat}, Blk T (mK M) (mN M) (mR M) f → (List.range T.1.length).all (fun o => T.1.getD o 0 != 26) = true → ∀ o, o < T.1.length → mK M (f o) ≠ 26 := fun {T f} b c o ho => by
    rw [(b.1 o ho).1]
    have := List.all_eq_true.mp c o (List.mem_range.mpr ho)
    simpa using this
  by_cases h1 : k < 29
  · exact key a2 rfl k h1
  · by_cases h2 : k < 371
    · have b := (a3 ((k - 29) / 57) (by omega)).1
      have := key b rfl ((k - 29) % 57) (show (k - 29) % 57 < 57 by omega)
      unfold hO at this
      rw [show 29 + 57 * ((k - 29) / 57) + (k - 29) % 57 = k by omega] at this
      exact this
    · by_cases h3 : k < 476
      · have b := (a4 ((k - 371) / 35) (by omega)).1
        have := key b rfl ((k - 371) % 35) (show (k - 371) % 35 < 35 by omega)
        unfold gO at this
        rw [show 371 + 35 * ((k - 371) / 35) + (k - 371) % 35 = k by omega] at this
        exact this
      · rcases hk with hk | hk | hk | hk | hk
        · omega
        · have b := a5 ((k - 1000) / 10) (by omega)
          have := key b rfl ((k - 1000) % 10) (show (k - 1000) % 10 < 10 by omega)
          unfold cO at this
          rw [show 1000 + 10 * ((k - 1000) / 10) + (k - 1000) % 10 = k by omega] at this
          exact this
        · have b := a6 ((k - 1100) / 2) (by omega)
          have := key b rfl ((k - 1100) % 2) (show (k - 1100) % 2 < 2 by omega)
          unfold aO at this
          rw [show 1100 + 2 * ((k - 1100) / 2) + (k - 1100) % 2 = k by omega] at this
          exact this
        · have := (a7 (k - 1200) (by omega)).1
          unfold lO at this
          rw [show 1200 + (k - 1200) = k by omega] at this
          rw [this]; decide
        · have := a8 (k - 1300) (by omega)
          unfold yO at this
          rw [show 1300 + (k - 1300) = k by omega] at this
          rw [this]; decide
theorem LZ.al {sz : Nat → Nat} {el : Nat → Nat → Nat} (h : LZ G α M sz el) (e : ∀ k, LC k → β k = α k) : LZ G β M sz el :=
  ⟨fun k hk => by rw [e k hk]; exact h.1 k hk, fun i j hi hj => by rw [e i hi, e j hj]; exact h.2 i j hi hj⟩
def elc (β : Nat → Nat) (ix : Nat → Nat → Nat) (k : Nat) : Nat → Nat := if k = 1 then fun c => cO β c 0 else if k = 27 then fun g => aO β g 0 else if k = 28 then yO β else if (k - 29) % 57 = 1 then fun i => cO β (ix k i) 0 else if (k - 29) % 57 = 2 then fun i => lO β (ix k i) else fun i => aO β (ix k i) 0
theorem elc_p {ix : Nat → Nat → Nat} {p o : Nat} (hp : p < 6) (h1 : 1 ≤ o) (h2 : o < 4) : elc β ix (29 + 57 * p + o) = if o = 1 then fun i => cO β (ix (29 + 57 * p + o) i) 0 else if o = 2 then fun i => lO β (ix (29 + 57 * p + o) i) else fun i => aO β (ix (29 + 57 * p + o) i) 0 := by
  unfold elc
  rw [if_neg (by omega), if_neg (by omega), if_neg (by omega), show (29 + 57 * p + o - 29) % 57 = o by omega]
theorem LSW.of {sz sz' : Nat → Nat} {el ix' : Nat → Nat → Nat} (lz : LZ G β M sz el) (hs : ∀ k, LC k → sz' k = sz k) (he : ∀ k, LC k → ∀ i, i < sz k → elc β ix' k i = el k i) (h1 : sz' 1 = un U 9 9) (h27 : sz' 27 = un U 44 44) (h28 : sz' 28 = un U 51 51)
    (hp : ∀ p, p < 6 → EnN (fun c => un U 0 c = p) (un U 9 9) (sz' (29 + 57 * p + 1)) (ix' (29 + 57 * p + 1)) ∧ EnL U p (sz' (29 + 57 * p + 2)) (ix' (29 + 57 * p + 2)) ∧ EnG U p (sz' (29 + 57 * p + 3)) (ix' (29 + 57 * p + 3))) : LSW U G β M sz' (elc β ix') ix' :=
  ⟨lz.cg hs he, ⟨h1, rfl⟩, ⟨h27, rfl⟩, ⟨h28, rfl⟩, fun p hp2 => ⟨⟨(hp p hp2).1, (elc_p hp2 (by decide) (by decide)).trans (if_pos rfl)⟩, ⟨(hp p hp2).2.1, (elc_p hp2 (by decide) (by decide)).trans ((if_neg (by decide)).trans (if_pos rfl))⟩, ⟨(hp p hp2).2.2, (elc_p hp2 (by decide) (by decide)).trans ((if_neg (by decide)).trans (if_neg (by decide)))⟩⟩⟩
theorem WTy.al (hw : WF τ) (e : ∀ k, LV τ k → β k = α k) (w : WTy τ α M) : WTy τ β M := by
  obtain ⟨b1, b2, b3⟩ := w
  refine ⟨fun k hk => ?_, fun g hg => ?_, fun k hk => ?_⟩
  · rw [show lO β k = lO α k from e _ (lv_l hk)]; exact b1 k hk
  · unfold GaF
    rw [show aO β g 0 = aO α g 0 from e _ (lv_a hg (by decide))]
    exact b2 g hg
  · rw [show yO β k = yO α k from e _ (lv_y hk)]; exact b3 k hk
/-- blocks that a walk reads, in a grown memory -/
theorem WS.xk {A B : Nat → Prop} (ws : WS τ G α M) (kp : KP A B M M') (hB : ∀ k, LV τ k → ¬ LC k → ¬ B (α k)) : Blk tbX (mK M') (mN M') (mR M') α ∧ ∀ p, p < 6 → Blk tbPe (mK M') (mN M') (mR M') (hO α p) ∧ mR M' (α 2) p = some (hO α p 0) := by
  have k0 : ∀ k, LV τ k → mK M (α k) ≠ 0 := fun k hk => ws.kn hk
  refine ⟨ws.2.1.kp kp (fun o ho => k0 o (lv_s (by have : tbX.1.length = 29 := rfl; omega))) rfl (fun r hr => ?_), fun p hp => ⟨(ws.2.2.1 p hp).1.kp kp (fun o ho => k0 _ (lv_h hp (show o < 57 from ho))) rfl (fun r hr => ?_), ?_⟩⟩
  · have c : tbX.2.2.all (fun r => decide (r.1 < 29) && (r.1 != 1 && (r.1 != 27 && r.1 != 28))) = true := rfl
    have t := List.all_eq_true.mp c r hr
    simp only [Bool.and_eq_true, decide_eq_true_eq, bne_iff_ne] at t
    exact hB r.1 (lv_s (by omega)) (by rintro (z | z | z | ⟨q, o, h1, h2, h3, z⟩) <;> omega)
  · have c : tbPe.2.2.all (fun r => decide (r.1 < 57) && (r.1 != 1 && (r.1 != 2 && r.1 != 3))) = true := rfl
    have t := List.all_eq_true.mp c r hr
    simp only [Bool.and_eq_true, decide_eq_true_eq, bne_iff_ne] at t
    exact hB _ (lv_h hp t.1) (by rintro (z | z | z | ⟨q, o, h1, h2, h3, z⟩) <;> omega)
  · rw [(kp _ (k0 2 (lv_s (by decide)))).2.2.2 (hB 2 (lv_s (by decide)) (by rintro (z | z | z | ⟨q, o, h1, h2, h3, z⟩) <;> omega))]
    exact (ws.2.2.1 p hp).2
/-- a list object, or an array of elements -/
def LA (α : Nat → Nat) (L : Nat → Prop) (M : Mem) (x : Nat) : Prop := (∃ k, LC k ∧ L k ∧ x = α k) ∨ mK M x = 26
theorem LA.no {L : Nat → Prop} (ws : WS τ G α M) {k : Nat} (hk : LV τ k) (hn : ¬ LC k) : ¬ LA α L M (α k) := by
  rintro (⟨j, h1, _, e⟩ | e)
  · exact hn (ws.1 k j hk h1.lv e ▸ h1)
  · exact ws.kn6 hk e
theorem LI.n26 {ci a s : Nat} {e : Nat → Nat} (h : LI G M ci a s e) : mK M a ≠ 0 := by rw [h.1]; decide
end Gr2
