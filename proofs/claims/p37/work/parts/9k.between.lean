/-! THE LAW: what stands between calls -/
def MT (τ : Mu) (mb : Nat) (M : Mem) : Prop := MOK (mK M) (mN M) (mR M) mb ∧ TE (mI M) (mL M) mb τ ∧ TEb (mI M) (mL M) mb τ ∧ LTB M mb
theorem mkd_lt {k : Nat} (h : mkd.getD k 0 ≠ 0) : k < 70 := by
  apply Classical.byContradiction
  intro z
  refine h ?_
  unfold List.getD
  rw [List.getElem?_eq_none (by show 70 ≤ k; omega)]
  rfl
theorem mkd_26 {k : Nat} (h : k < 70) : mkd.getD k 0 ≠ 26 := by
  have c : ((List.range 70).all (fun k => mkd.getD k 0 != 26)) = true := by decide
  simpa using List.all_eq_true.mp c k (List.mem_range.mpr h)
theorem ma_in {mb k : Nat} : mb ≤ ma mb k ∧ ma mb k ≤ mb + 58 := by
  have := mrk_le k
  unfold ma
  omega
theorem MOK.nz {M : Mem} {mb a : Nat} (h : MOK (mK M) (mN M) (mR M) mb) (h1 : mb ≤ a) (h2 : a ≤ mb + 58) : mK M a ≠ 0 ∧ mK M a ≠ 26 := by
  have c : ((List.range 59).all (fun o => o == 0 || (List.range 70).any (fun k => mkd.getD k 0 != 0 && mrk.getD k 0 == o))) = true := by decide +kernel
  have t := List.all_eq_true.mp c (a - mb) (List.mem_range.mpr (by omega))
  rw [Bool.or_eq_true] at t
  rcases t with t | t
  · have e : a = mb := by have := beq_iff_eq.mp t; omega
    rw [e, h.1]; decide
  · obtain ⟨k, hk, t⟩ := List.any_eq_true.mp t
    rw [Bool.and_eq_true, bne_iff_ne, beq_iff_eq] at t
    have e : a = ma mb k := by unfold ma; omega
    rw [e, (h.2 k (List.mem_range.mp hk) t.1).2.1]
    exact ⟨t.1, mkd_26 (List.mem_range.mp hk)⟩
theorem MT.cg {τ : Mu} {mb : Nat} {M M' : Mem} (h : MT τ mb M) (e : ∀ a, mb ≤ a → a ≤ mb + 58 → mK M' a = mK M a ∧ mN M' a = mN M a ∧ mI M' a = mI M a ∧ mL M' a = mL M a ∧ mR M' a = mR M a) : MT τ mb M' := by
  obtain ⟨h1, h2, h3, h4⟩ := h
  obtain ⟨b1, b2, b3, b4, b5⟩ := e mb (Nat.le_refl _) (by omega)
  have ea : ∀ k, mK M' (ma mb k) = mK M (ma mb k) ∧ mN M' (ma mb k) = mN M (ma mb k) ∧ mI M' (ma mb k) = mI M (ma mb k) ∧ mL M' (ma mb k) = mL M (ma mb k) ∧ mR M' (ma mb k) = mR M (ma mb k) := fun k => e _ ma_in.1 ma_in.2
  refine ⟨⟨b1.trans h1.1, fun k hk h0 => ?_⟩, fun k hk => ?_, fun k hk => ?_, ?_⟩
  · rw [b5, (ea k).1, (ea k).2.1]; exact h1.2 k hk h0
  · rw [b3, (ea k).2.2.1, (ea k).2.2.2.1]; exact h2 k hk
  · rw [b3, (ea k).2.2.1, (ea k).2.2.2.1]; exact h3 k hk
  · unfold LTB; rw [(ea 16).2.2.1]; exact h4
def LJ (τ : Mu) (G : gW) (α : Nat → Nat) (M : Mem) (q mb ao : Nat) : Prop := WF τ ∧ WD τ G α M ∧ α 0 = q ∧ MT τ mb M ∧ (mK M ao = 21 ∧ mN M ao = 1) ∧ (∀ k, LV τ k → ao ≠ α k) ∧ (∀ a, mb ≤ a → a ≤ mb + 58 → ∀ k, LV τ k → a ≠ α k) ∧ (ao < mb ∨ mb + 58 < ao)
section LJs
variable {τ U : Mu} {G : gW} {α : Nat → Nat} {M M1 M2 : Mem} {q mb ao C : Nat} {R : Option Int64} {R' v v' : Option Value}
theorem LJ.mid (h : LJ τ G α M q mb ao) (p : LPo τ G α M ao C U R v M1) : MT τ mb M1 := by
  obtain ⟨_, _, _, h4, _, _, h7, h8⟩ := h
  obtain ⟨_, _, β, _, _, hq, _⟩ := p
  refine h4.cg fun a a1 a2 => ?_
  obtain ⟨z1, z2⟩ := h4.1.nz a1 a2
  obtain ⟨b1, b2, b3, b4, b5⟩ := hq a z1 z2 (h7 a a1 a2)
  exact ⟨b1, b2, b3, b4 (by omega), b5⟩
theorem LJ.step (h : LJ τ G α M q mb ao) (hwU : C = 0 → WF U) (p : LPo τ G α M ao C U R v M1) (pp : PP mb M1 τ C U R' v' M2) : ∃ β, LJ (if C = 0 then U else τ) G β M2 q mb ao := by
  have hm := h.mid p
  obtain ⟨h1, h2, h3, h4, h5, h6, h7, h8⟩ := h
  obtain ⟨_, _, β, hWD, hb0, hq, hx⟩ := p
  obtain ⟨_, mo, lt, tn, tc, _⟩ := pp
  have hw : WF (if C = 0 then U else τ) := by
    by_cases z : C = 0
    · rw [if_pos z]; exact hwU z
    · rw [if_neg z]; exact h1
  have hna : ∀ a, mb ≤ a → a ≤ mb + 58 → ∀ k, LV (if C = 0 then U else τ) k → a ≠ β k := fun a a1 a2 => hx a (h4.1.nz a1 a2).1 (h7 a a1 a2)
  have f : frm (fun a => mb ≤ a ∧ a ≤ mb + 58) M1 M2 := ⟨mo.1, mo.2.1, mo.2.2.1, fun a ha => mo.2.2.2 a (by omega)⟩
  obtain ⟨o1, o2, _⟩ := hq ao (by rw [h5.1]; decide) (by rw [h5.1]; decide) h6
  refine ⟨β, hw, hWD.fr hw f (fun k hk z => hna _ z.1 z.2 k hk rfl), hb0.trans h3, ⟨?_, ?_, ?_, lt⟩, ⟨(congrFun mo.1 ao).trans (o1.trans h5.1), (congrFun mo.2.1 ao).trans (o2.trans h5.2)⟩, hx ao (by rw [h5.1]; decide) h6, hna, h8⟩
  · rw [show mK M2 = mK M1 from mo.1, show mN M2 = mN M1 from mo.2.1, show mR M2 = mR M1 from mo.2.2.1]; exact hm.1
  · by_cases z : C = 0
    · rw [if_pos z]; exact (tc z).2.1
    · rw [if_neg z]; exact (tn z).1
  · by_cases z : C = 0
    · rw [if_pos z]; exact (tc z).2.2
    · rw [if_neg z]; exact (tn z).2
theorem LJ.out {w0 : Int64} (h : LJ τ G α M q mb ao) (p : LPo τ G α M ao C U (some w0) v M1) (pp : PP mb M1 τ C U R' v' M2) (hC : C = 0) : mL M2 ao 0 = w0 := by
  obtain ⟨_, _, _, _, _, _, _, h8⟩ := h
  exact (congrFun (pp.2.1.2.2.2 ao (by omega)).2 0).trans (p.2.1 hC w0 rfl)
end LJs
/-- bounds that the number of calls keeps -/
def LK (n : Nat) (τ : Mu) : Prop := (∀ x, 720 * un τ 9 9 ≤ x → x < 7200 → τ.1 6 x = -1) ∧ un τ 51 51 ≤ 6 * un τ 46 46 ∧ BO τ ∧ ∀ i, i < 144 → 0 ≤ (τ.2 45 i).toInt ∧ (τ.2 45 i).toInt ≤ 100000000 * (n : Int)
theorem LK.ad {n : Nat} {τ : Mu} (h : LK n τ) (hn : n ≤ 600) : ∀ p, p < 6 → AD τ p := fun p hp k hk => by
  obtain ⟨a, b⟩ := h.2.2.2 (24 * p + k) (by omega)
  exact ⟨a, by omega⟩
theorem LK.up {n : Nat} {τ : Mu} (h : LK n τ) : LK (n + 1) τ := ⟨h.1, h.2.1, h.2.2.1, fun i hi => ⟨(h.2.2.2 i hi).1, by have := (h.2.2.2 i hi).2; omega⟩⟩
theorem LK.cg {n : Nat} {τ U : Mu} (h : LK n τ) (e6 : U.1 6 = τ.1 6) (e9 : U.1 9 = τ.1 9) (e30 : U.1 30 = τ.1 30) (e46 : U.1 46 = τ.1 46) (e51 : U.1 51 = τ.1 51) (e45 : U.2 45 = τ.2 45) : LK n U := by
  unfold LK BO un at h ⊢
  rw [e6, e9, e30, e46, e51, e45]
  exact h
theorem LK.n6 {n : Nat} {τ : Mu} (h : LK n τ) (h9 : un τ 9 9 < 10) : ∀ d, d < 720 → τ.1 6 (720 * un τ 9 9 + d) = -1 := fun d hd => h.1 _ (by omega) (by omega)
theorem lk0 : LK 0 τ0 := by
  refine ⟨fun x _ hx => if_pos (.inl ⟨rfl, hx⟩), by rw [u0 (by decide)]; exact Nat.zero_le _, bo0, fun i _ => ?_⟩
  rw [show τ0.2 45 i = 0 from rfl]
  exact ⟨by decide, by decide⟩

