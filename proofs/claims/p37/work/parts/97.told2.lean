/-! THE CLASS: when what was told changes -/
theorem un_e {τ U : Mu} {k : Nat} (h : U.1 k = τ.1 k) : un U k = un τ k := funext fun i => by unfold un; rw [h]
section Us
variable {τ U : Mu} {G : gW} {α : Nat → Nat} {M : Mem}
theorem INJ.u (h9 : U.1 9 = τ.1 9) (h17 : U.1 17 = τ.1 17) (h44 : U.1 44 = τ.1 44) (h51 : U.1 51 = τ.1 51) (g : INJ τ α) : INJ U α := by
  unfold INJ LV
  rw [un_e h9, un_e h17, un_e h44, un_e h51]
  exact g
theorem PW.u {p : Nat} (h0 : U.1 0 = τ.1 0) (h9 : U.1 9 = τ.1 9) (h14 : U.1 14 = τ.1 14) (h15 : U.1 15 = τ.1 15) (h17 : U.1 17 = τ.1 17) (h38 : U.1 38 = τ.1 38) (h40 : U.1 40 = τ.1 40) (h44 : U.1 44 = τ.1 44) (g : PW τ p G α M) : PW U p G α M := by
  unfold PW EnL EnG
  simp only [un_e h0, un_e h9, un_e h14, un_e h15, un_e h17, un_e h38, un_e h40, un_e h44]
  exact g
theorem WS.u (h0 : U.1 0 = τ.1 0) (h9 : U.1 9 = τ.1 9) (h14 : U.1 14 = τ.1 14) (h15 : U.1 15 = τ.1 15) (h17 : U.1 17 = τ.1 17) (h38 : U.1 38 = τ.1 38) (h40 : U.1 40 = τ.1 40) (h44 : U.1 44 = τ.1 44) (h51 : U.1 51 = τ.1 51) (g : WS τ G α M) : WS U G α M := by
  obtain ⟨a1, a2, a3, a4, a5, a6, a7, a8, a9, a10, a11, a12, a13⟩ := g
  refine ⟨a1.u h9 h17 h44 h51, a2, a3, a4, ?_, ?_, ?_, ?_, ?_, ?_, ?_, fun p hp => (a12 p hp).u h0 h9 h14 h15 h17 h38 h40 h44, a13⟩
  · rw [un_e h9]; exact a5
  · rw [un_e h44]; exact a6
  · rw [un_e h17, un_e h14]; exact a7
  · rw [un_e h51]; exact a8
  · rw [un_e h9]; exact a9
  · rw [un_e h44]; exact a10
  · rw [un_e h51]; exact a11
theorem CoF.u {c : Nat} {i : Nat → Nat → Int32} {f : Nat → Nat} (h : ∀ k, k < 9 → U.1 k = τ.1 k) (g : CoF τ c i f) : CoF U c i f := by
  unfold CoF
  rw [un_e (h 0 (by decide)), un_e (h 1 (by decide)), un_e (h 2 (by decide)), un_e (h 3 (by decide)), un_e (h 4 (by decide)), un_e (h 5 (by decide)), un_e (h 7 (by decide)), un_e (h 8 (by decide))]
  exact g
theorem WTc.u {c : Nat} (h : ∀ k, k < 14 → U.1 k = τ.1 k) (g : WTc τ α M c) : WTc U α M c := by
  obtain ⟨g1, g2, g3⟩ := g
  refine ⟨g1.u (fun k hk => h k (by omega)), ?_, ?_⟩
  · have e : pyV U c = pyV τ c := by
      unfold pyV
      rw [un_e (h 2 (by decide)), un_e (h 3 (by decide)), h 6 (by decide)]
    rw [e]; exact g2
  · simp only [un_e (h 10 (by decide)), un_e (h 11 (by decide)), un_e (h 12 (by decide)), un_e (h 13 (by decide))]
    exact g3
theorem WTp.u {p : Nat} (h30 : U.1 30 = τ.1 30) (h36 : U.1 36 = τ.1 36) (h37 : U.1 37 = τ.1 37) (h47 : U.1 47 = τ.1 47) (h50 : U.1 50 = τ.1 50) (h51 : U.1 51 = τ.1 51) (l45 : U.2 45 = τ.2 45) (l49 : U.2 49 = τ.2 49) (g : WTp τ α M p) : WTp U α M p := by
  unfold WTp stV ptV
  simp only [h30, h36, h37, un_e h47, un_e h50, un_e h51, l45, l49]
  exact g
theorem BrF.u {at_ : Nat} {i : Nat → Nat → Int32} {f : Nat → Nat} (h33 : U.1 33 = τ.1 33) (h34 : U.1 34 = τ.1 34) (h35 : U.1 35 = τ.1 35) (g : BrF τ at_ i f) : BrF U at_ i f := by
  unfold BrF
  simp only [h33, h34, h35, un_e h33]
  exact g
theorem WTq.u {q : Nat} (h31 : U.1 31 = τ.1 31) (h32 : U.1 32 = τ.1 32) (h33 : U.1 33 = τ.1 33) (h34 : U.1 34 = τ.1 34) (h35 : U.1 35 = τ.1 35) (h54 : U.1 54 = τ.1 54) (l52 : U.2 52 = τ.2 52) (l53 : U.2 53 = τ.2 53) (g : WTq τ α M q) : WTq U α M q := by
  obtain ⟨g1, g2, g3, g4⟩ := g
  refine ⟨?_, ?_, fun s hs => (g3 s hs).u h33 h34 h35, ?_⟩
  · have e : crV U q = crV τ q := by unfold crV; rw [h31]
    rw [e]; exact g1
  · have e : clV U q = clV τ q := by unfold clV; rw [h31, h32]
    rw [e]; exact g2
  · rw [l52, l53, h54]; exact g4
theorem WTy.u (h15 : U.1 15 = τ.1 15) (h17 : U.1 17 = τ.1 17) (h38 : ∀ k, 38 ≤ k → k < 45 → U.1 k = τ.1 k) (h47 : U.1 47 = τ.1 47) (h48 : U.1 48 = τ.1 48) (h50 : U.1 50 = τ.1 50) (h51 : U.1 51 = τ.1 51) (l49 : U.2 49 = τ.2 49) (g : WTy τ α M) : WTy U α M := by
  unfold WTy GaF
  simp only [un_e h15, un_e h17, un_e (h38 38 (by decide) (by decide)), un_e (h38 39 (by decide) (by decide)), un_e (h38 40 (by decide) (by decide)), un_e (h38 41 (by decide) (by decide)), un_e (h38 42 (by decide) (by decide)), un_e (h38 43 (by decide) (by decide)), un_e (h38 44 (by decide) (by decide)), un_e h47, un_e h48, un_e h50, un_e h51, l49]
  exact g
theorem CoW.u {c : Nat} {i : Nat → Nat → Int32} {j : Nat → Nat → Int64} {f : Nat → Nat} (h : ∀ k, k < 9 → U.1 k = τ.1 k) (g : CoW τ c i j f) : CoW U c i j f := by
  have ep : payD U = payD τ := by funext c d; unfold payD; rw [un_e (h 2 (by decide)), un_e (h 3 (by decide)), un_e (h 7 (by decide))]
  have ed : dayN U c = dayN τ c := by funext d; unfold dayN isOfN; rw [ep, un_e (h 2 (by decide)), un_e (h 3 (by decide)), un_e (h 4 (by decide)), un_e (h 8 (by decide))]
  have eo : overP U c = overP τ c := by funext w; unfold overP hourN overN ovD ovA; rw [ep, un_e (h 4 (by decide)), un_e (h 5 (by decide)), un_e (h 8 (by decide))]
  intro m hm
  have := g m hm
  unfold baseD baseW hrC at this ⊢
  rw [ed, eo, un_e (h 4 (by decide)), un_e (h 8 (by decide))]
  exact this
end Us
/-- the books' own objects -/
def StA (α : Nat → Nat) (a : Nat) : Prop := ∃ p, p < 6 ∧ a = bO α p 0
theorem StA.no {τ : Mu} {α : Nat → Nat} (hi : INJ τ α) {k : Nat} (hk : LV τ k) (h : ∀ p, p < 6 → k ≠ 44 + 57 * p) : ¬ StA α (α k) := by
  rintro ⟨p, hp, e⟩
  have := hi _ _ hk (lv_b hp (show 0 < 42 by decide)) e
  exact h p hp (by omega)
theorem StA.lc {τ : Mu} {α : Nat → Nat} (hi : INJ τ α) {k : Nat} (hk : LC k) : ¬ StA α (α k) := StA.no hi (lc_bc (p := 0) hk).1 (fun p hp e => by
  rcases hk with rfl | rfl | rfl | ⟨q, o, h1, h2, h3, rfl⟩ <;> omega)
set_option maxHeartbeats 1000000 in
set_option maxRecDepth 100000 in
theorem c_X11_makeAllStale (l : Launch) (hfl : l.flags = flags0) (G : gW) (M : Mem) (τ : Mu) (α : Nat → Nat) (hws : WS τ G α M) : CT l yX11_makeAllStale cX11_makeAllStale 2 none 0 0 0 0 G M [.ref (α 0)] (fun v M' => v = none ∧ frm (StA α) M M' ∧ ∀ p, p < 6 → mI M' (bO α p 0) 0 = 1) := by
  refine CT.of hfl rfl (Nat.le_of_ble_eq_true rfl) ?_
  intro pp ee ss mm ar bw mt cd C hgX hr hini
  refine V.eLo (lo' := [(0, .ref (α 0))]) rfl ?_
  refine r_iconst C (v := nI 0) dX11_makeAllStale_0 (by decide) ?_
  refine r_istore_n C (lo' := [(1, .int (nI 0)), (0, .ref (α 0))]) dX11_makeAllStale_1 rfl (by decide) rfl ?_
  have lp2 : ∀ (k2 : Nat) (M1 : Mem) (p : Nat) (hp6 : p ≤ 6) (hfm : frm (StA α) M M1) (hst : ∀ r, r < p → mI M1 (bO α r 0) 0 = 1), 7 - p < k2 → V pp l ee ({ frames := 0, cells := 0, slots := 0, locals := 0 } : Room) ss mm ar bw mt cd G (MQ bw (Ke G (fun v M' => v = none ∧ frm (StA α) M M' ∧ ∀ p, p < 6 → mI M' (bO α p 0) 0 = 1)) ar ss 0 0 (gA G)) 2 M1 0 0 2 [(0, .ref (α 0)), (1, .int (nI p))] [] := by
    intro k2
    induction k2 with
    | zero => intro M1 p hp6 hfm hst hz2; exact absurd hz2 (Nat.not_lt_zero _)
    | succ k2 ih2 =>
      intro M1 p hp6 hfm hst hz2
      have hws1 := hws.fr hfm (fun k hk => StA.lc hws.1 hk)
      have hx := hws1.2.1
      refine r_iload_n C 1 dX11_makeAllStale_2 rfl rfl ?_
      refine r_bipush C (v := nI 6) dX11_makeAllStale_3 (by decide) ?_
      refine r_icmp_geN C (t := 27) (by omega) (by omega) dX11_makeAllStale_5 (by decide) (fun c5 => ?_) (fun c5 => ?_)
      · skip
        have ep : p = 6 := by omega
        subst ep
        exact r_vret C hr (⟨rfl, hfm, hst⟩) (by first | exact Nat.zero_le _ | decide) (by first | exact Nat.zero_le _ | decide) dX11_makeAllStale_27
      · skip
        have hbp := (hws1.2.2.1 p (by omega)).1
        have hbb := hws1.bk (show p < 6 by omega)
        refine r_aload_n C 0 dX11_makeAllStale_8 rfl rfl ?_
        refine r_getR C (b := (α 2)) fl_X11_18 rfl (hx.k 0 14 rfl) (hx.r 0 1 2 rfl) dX11_makeAllStale_9 ?_
        refine r_iload_n C 1 dX11_makeAllStale_12 rfl rfl ?_
        refine r_aaloadN C (b := (hO α p 0)) 1 (by decide) (hx.k 2 24 rfl) (hx.n 2 6 rfl) (by omega) (by omega) (hws1.2.2.1 p (by omega)).2 dX11_makeAllStale_13 ?_
        refine r_getR C (b := (bO α p 0)) fl_X11_94 rfl (hbp.k 0 11 rfl) (hbp.r 0 10 15 rfl) dX11_makeAllStale_14 ?_
        refine r_iconst C (v := nI 1) dX11_makeAllStale_17 (by decide) ?_
        refine r_putZ C fl_X11_98 (by decide) (hbb.k 0 4 rfl) dX11_makeAllStale_18 ?_
        refine r_iinc C (v := nI (p + 1)) (lo' := [(1, .int (nI (p + 1))), (0, .ref (α 0))]) 1 dX11_makeAllStale_21 rfl (nI_addI p 1) (by decide) rfl ?_
        refine r_goto C (t := 2) dX11_makeAllStale_24 (by decide) ?_
        refine V.sub [1, 0] (lo' := [(0, .ref (α 0)), (1, .int (nI (p + 1)))]) rfl ?_
        exact ih2 (wI M1 (bO α p 0) 0 (nI 1)) (p + 1) (by omega) (hfm.wi 0 (nI 1) ⟨p, by omega, rfl⟩) (fun r hr => by by_cases z : r = p; (subst z; exact wI_i); exact (congrFun (wI_a (show bO α r 0 ≠ bO α p 0 from hws.1.ne (lv_b (by omega) (by decide)) (lv_b (by omega) (by decide)) (by omega))) 0).trans (hst r (by omega))) (by omega)
  refine V.sub [1, 0] (lo' := [(0, .ref (α 0)), (1, .int (nI 0))]) rfl ?_
  exact lp2 _ M 0 (Nat.zero_le _) (frm.rf _ _) (fun r hr => absurd hr (Nat.not_lt_zero _)) (Nat.lt_succ_self _)

