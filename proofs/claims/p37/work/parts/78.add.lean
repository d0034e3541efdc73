/-! ARRAYLIST: add, over what stands at the places -/
theorem c_addh (l : Launch) (hfl : l.flags = flags0) (G : gW) (M : Mem) (a d s : Nat) (ci : Nat) (r : vw_C) (hc : vwCl[ci]? = some r) (hx : r.1 ∈ gxC) (hk : mK M a = 3) (hd : mR M a 1 = some d) (hs : mI M a 2 = nI s) (hs2 : s ≤ 150)
    (hcase : (s = 0 ∧ d = gS G 0) ∨ (mK M d = 26 ∧ s ≤ mN M d ∧ 10 ≤ mN M d ∧ mN M d ≤ 300 ∧ ∀ i, i < s → ∀ y, mR M d i = some y → mK M y = ci + 1)) (b : Nat) (hb_ : mK M b = ci + 1) : CT l yJx4a65c_add_72be8 cJx4a65c_add_72be8 4 none 5 1 300 185 G M [.ref a, .ref b, .ref d, .int (nI s)] (fun v M' => v = none ∧ AdP M M' a d s b) := by
  rcases hcase with ⟨h1, h2⟩ | ⟨h1, h2, h10, h3, h4⟩
  · subst h2
    exact c_addhE l hfl G M a (gS G 0) s ci r hc hx hk hd hs h1 rfl b hb_
  · by_cases e : s < mN M d
    · exact c_addhR l hfl G M a d s _ ci r hc hx hk hd hs h1 rfl e h10 h3 b hb_
    · exact c_addhF l hfl G M a d s ci r hc hx hk hd hs h1 (by omega) (by omega) (by omega) h4 b hb_
/-- what a list's add leaves as it was: d the array that was there -/
def LF (M M' : Mem) (a d : Nat) : Prop := (∀ k, k ≠ 1 → mR M' a k = mR M a k) ∧ (∃ d', mR M' a 1 = some d' ∧ mK M' d' = 26 ∧ (mK M d' = 0 ∨ d' = d)) ∧ ∀ x, mK M x ≠ 0 → mK M' x = mK M x ∧ mN M' x = mN M x ∧ mL M' x = mL M x ∧ (x ≠ a → mI M' x = mI M x) ∧ (x ≠ a → x ≠ d → mR M' x = mR M x)
theorem LI.hcase {G : gW} {M : Mem} {ci a s d : Nat} {e : Nat → Nat} (h : LI G M ci a s e) (hd : mR M a 1 = some d) : (s = 0 ∧ d = gS G 0) ∨ (mK M d = 26 ∧ s ≤ mN M d ∧ 10 ≤ mN M d ∧ mN M d ≤ 300 ∧ ∀ i, i < s → ∀ y, mR M d i = some y → mK M y = ci + 1) := by
  obtain ⟨h1, h2, h3, d', h4, h5⟩ := h
  cases hd.symm.trans h4
  rcases h5 with h5 | ⟨g1, g2, g3, g4, g5⟩
  · exact .inl h5
  · refine .inr ⟨g1, g2, g3, g4, fun i hi y hy => ?_⟩
    cases (g5 i hi).symm.trans hy
    exact h3 i hi
theorem LI.add {G : gW} {M M' : Mem} {ci a s d b : Nat} {e : Nat → Nat} {v : Int32} (h : LI G M ci a s e) (hd : mR M a 1 = some d) (hb_ : mK M b = ci + 1) (g : AdP (wI M a 0 v) M' a d s b) : LI G M' ci a (s + 1) (fun i => if i = s then b else e i) ∧ LF M M' a d := by
  obtain ⟨h1, h2, h3, d0, h4, h5⟩ := h
  cases hd.symm.trans h4
  obtain ⟨g1, ⟨d', q1, q2, q3, q4, q5, q6, q7, q8⟩, g3, g4, g5⟩ := g
  have kk : ∀ x, mK M x ≠ 0 → mK M' x = mK M x := fun x hx => (g5 x hx).1
  refine ⟨⟨(kk a (by rw [h1]; decide)).trans h1, g1, fun i hi => ?_, d', q1, .inr ⟨q2, q3, q4, q5, fun i hi => ?_⟩⟩, g4, ⟨d', q1, q2, q8⟩, fun x hx => ?_⟩
  · show mK M' (if i = s then b else e i) = ci + 1
    by_cases z : i = s
    · rw [if_pos z]; exact (kk b (by rw [hb_]; omega)).trans hb_
    · rw [if_neg z]
      have := h3 i (by omega)
      exact (kk _ (by rw [this]; omega)).trans this
  · show mR M' d' i = some (if i = s then b else e i)
    by_cases z : i = s
    · rw [if_pos z, z]; exact q7
    · rw [if_neg z, q6 i (by omega)]
      rcases h5 with h5 | ⟨p1, p2, p3, p4, p5⟩
      · omega
      · exact p5 i (by omega)
  · obtain ⟨z1, z2, z3, z4, z5⟩ := g5 x hx
    exact ⟨z1, z2, z3, fun z => (z4 z).trans (wI_a z), z5⟩
set_option maxHeartbeats 4000000 in
set_option maxRecDepth 100000 in
theorem c_Jx4a65c_add_9ea2d (l : Launch) (hfl : l.flags = flags0) (G : gW) (M : Mem) (ci a s : Nat) (e : Nat → Nat) (r : vw_C) (hc : vwCl[ci]? = some r) (hx : r.1 ∈ gxC) (hL : LI G M ci a s e) (hs2 : s ≤ 150) (b : Nat) (hb_ : mK M b = ci + 1) : CT l yJx4a65c_add_9ea2d cJx4a65c_add_9ea2d 2 (some .boolean) 6 1 300 208 G M [.ref a, .ref b] (fun v M' => v = some (.int (nI 1)) ∧ ∃ d, mR M a 1 = some d ∧ LI G M' ci a (s + 1) (fun i => if i = s then b else e i) ∧ LF M M' a d) := by
  refine CT.of hfl rfl (Nat.le_of_ble_eq_true rfl) ?_
  intro pp ee ss mm ar bw mt cd C hgX hr hini
  obtain ⟨d, hd, -⟩ := id hL.2.2.2
  refine V.eLo (lo' := [(0, .ref a), (1, .ref b)]) rfl ?_
  refine r_aload_n C 0 dJx4a65c_add_9ea2d_0 rfl rfl ?_
  refine r_dup C dJx4a65c_add_9ea2d_1 rfl ?_
  refine r_getI C fl_Jx4a65c_63 rfl hL.1 dJx4a65c_add_9ea2d_2 ?_
  refine r_iconst C (v := nI 1) dJx4a65c_add_9ea2d_5 (by decide) ?_
  refine r_iadd C dJx4a65c_add_9ea2d_6 ?_
  refine V.topi (fun v1 ev1 => ?_)
  refine r_putI C fl_Jx4a65c_63 hL.1 dJx4a65c_add_9ea2d_7 ?_
  refine r_aload_n C 0 dJx4a65c_add_9ea2d_10 rfl rfl ?_
  refine r_aload_n C 1 dJx4a65c_add_9ea2d_11 rfl rfl ?_
  refine r_aload_n C 0 dJx4a65c_add_9ea2d_12 rfl rfl ?_
  refine r_getR C (b := d) fl_Jx4a65c_9 rfl (show mK (wI M a 0 v1) a = 2 + 1 from hL.1) (show mR (wI M a 0 v1) a 1 = some d from hd) dJx4a65c_add_9ea2d_13 ?_
  refine r_aload_n C 0 dJx4a65c_add_9ea2d_16 rfl rfl ?_
  refine r_getI C fl_Jx4a65c_48 rfl (show mK (wI M a 0 v1) a = 2 + 1 from hL.1) dJx4a65c_add_9ea2d_17 ?_
  refine V.ei (y := nI s) ((wI_k (by decide)).trans hL.2.1) ?_
  refine r_callV C hgX (ci := 2) ml_Jx4a65c_131 im_Jx4a65c_add_72be8 se_Jx4a65c_add_72be8 rfl rfl (show mK (wI M a 0 v1) a = 2 + 1 from (show mK (wI M a 0 v1) a = 2 + 1 from hL.1)) (c_addh l hfl G (wI M a 0 v1) a d s ci r hc hx hL.1 hd ((wI_k (by decide)).trans hL.2.1) hs2 (hL.hcase hd) b hb_) rfl (Nat.le_of_ble_eq_true rfl) ⟨Nat.le_of_ble_eq_true rfl, Nat.le_of_ble_eq_true rfl⟩ ⟨Nat.le_of_ble_eq_true rfl, Nat.le_of_ble_eq_true rfl⟩ dJx4a65c_add_9ea2d_20 rfl ?_
  rintro _ My2 ⟨rfl, had⟩
  refine r_iconst C (v := nI 1) dJx4a65c_add_9ea2d_23 (by decide) ?_
  exact r_zret C hr (by decide) (⟨rfl, d, hd, hL.add hd hb_ had⟩) (by first | exact Nat.zero_le _ | decide) (by first | exact Nat.zero_le _ | decide) dJx4a65c_add_9ea2d_24

