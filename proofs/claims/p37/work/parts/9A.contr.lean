/-! THE CLASS: contribution -/
theorem upV_e {f g : Nat → Int32} {d : Nat} {a : Int32} (ha : 0 ≤ a) (hf : f d = a) (hg : ∀ m, m ≠ d → f m = g m) : (fun m => if 0 ≤ f m then some (f m) else none) = upV (fun m => if 0 ≤ g m then some (g m) else none) d a := by
  funext m
  unfold upV
  by_cases e : m = d
  · subst e; rw [if_pos rfl, hf, if_pos ha]
  · rw [if_neg e, hg m e]
theorem upV_e2 {f g k l : Nat → Int32} {d : Nat} {a b : Int32} (ha : 0 ≤ a) (hf : f d = a) (hg : ∀ m, m ≠ d → f m = g m) (hk : k d = b) (hl : ∀ m, m ≠ d → k m = l m) : (fun m => if 0 ≤ f m then some (k m) else none) = upV (fun m => if 0 ≤ g m then some (l m) else none) d b := by
  funext m
  unfold upV
  by_cases e : m = d
  · subst e; rw [if_pos rfl, hf, if_pos ha, hk]
  · rw [if_neg e, hg m e, hl m e]
theorem nn32 {n : Nat} (h : n < 2 ^ 31) : (0 : Int32) ≤ nI n := by
  rw [Int32.le_iff_toInt_le, nI_toInt h, z32]
  omega
/-- a place's cells that contribution changes -/
def CbA (α : Nat → Nat) (c a : Nat) : Prop := ∃ o, 1 ≤ o ∧ o < 7 ∧ a = gO α c o
theorem CbA.lv {τ : Mu} {α : Nat → Nat} {c a : Nat} (hc : c < 3) (h : CbA α c a) : ∃ k, LV τ k ∧ a = α k := by
  obtain ⟨o, h1, h2, e⟩ := h
  exact ⟨_, lv_g hc (show o < 35 by omega), e⟩
theorem CbA.no {τ : Mu} {α : Nat → Nat} {c k : Nat} (hi : INJ τ α) (hc : c < 3) (hk : LV τ k) (h : ¬ (372 + 35 * c ≤ k ∧ k < 378 + 35 * c)) : ¬ CbA α c (α k) := by
  rintro ⟨o, h1, h2, e⟩
  have := hi _ _ hk (lv_g hc (show o < 35 by omega)) e
  omega
theorem cb_w {τ : Mu} {G : gW} {α : Nat → Nat} {M M1 M2 : Mem} {c d a b : Nat} (hc : c < 3) (hd : d < 24) (ha : a ≤ 500) (hb : b ≤ 100000000) (hw : WF τ) (ws : WS τ G α M) (wt : WT τ α M) (wb : WB τ α M) (f : frm (CbA α c) M M1)
    (s1 : StV (upV (crV τ c) d (nI a)) (mI M1) (gO α c 2) (gO α c 3) 24) (s2 : StV (upV (clV τ c) d (nI b)) (mI M1) (gO α c 5) (gO α c 6) 24)
    (g : frm (StA α) M1 M2) (h1 : ∀ p, p < 6 → mI M2 (bO α p 0) 0 = 1) : WD (sI (sI τ 31 (24 * c + d) (nI a)) 32 (24 * c + d) (nI b)) G α M2 := by
  have h9 := hw.nc.2
  have h44 := hw.ng.2
  have hwU := wf_contribution hw (i := 24 * c + d) ha hb
  have hU : ∀ k, k ≠ 31 → k ≠ 32 → (sI (sI τ 31 (24 * c + d) (nI a)) 32 (24 * c + d) (nI b)).1 k = τ.1 k := fun k k1 k2 => (up2_row _ _ k2).trans (up2_row _ _ k1)
  have u31 : ∀ i, (sI (sI τ 31 (24 * c + d) (nI a)) 32 (24 * c + d) (nI b)).1 31 i = if i = 24 * c + d then nI a else τ.1 31 i := fun i => by
    show up2 (up2 τ.1 31 (24 * c + d) (nI a)) 32 (24 * c + d) (nI b) 31 i = _
    rw [up2_row _ _ (by decide)]
    by_cases e : i = 24 * c + d
    · rw [if_pos e, e, up2_same]
    · rw [if_neg e, up2_k _ _ e]
  have u32 : ∀ i, (sI (sI τ 31 (24 * c + d) (nI a)) 32 (24 * c + d) (nI b)).1 32 i = if i = 24 * c + d then nI b else τ.1 32 i := fun i => by
    show up2 (up2 τ.1 31 (24 * c + d) (nI a)) 32 (24 * c + d) (nI b) 32 i = _
    by_cases e : i = 24 * c + d
    · rw [if_pos e, e, up2_same]
    · rw [if_neg e, up2_k _ _ e, up2_row _ _ (by decide)]
  generalize hUe : sI (sI τ 31 (24 * c + d) (nI a)) 32 (24 * c + d) (nI b) = U at hU hwU u31 u32 ⊢
  have hU2 : U.2 = τ.2 := by rw [← hUe]; rfl
  have l2 : ∀ k, U.2 k = τ.2 k := fun k => by rw [hU2]
  have n : ∀ k, LV τ k → ¬ (372 + 35 * c ≤ k ∧ k < 378 + 35 * c) → ¬ CbA α c (α k) := fun k hk h => CbA.no ws.1 hc hk h
  have ei : ∀ k, LV τ k → ¬ (372 + 35 * c ≤ k ∧ k < 378 + 35 * c) → mI M1 (α k) = mI M (α k) := fun k hk h => f.i (n k hk h)
  have el : ∀ k, LV τ k → ¬ (372 + 35 * c ≤ k ∧ k < 378 + 35 * c) → mL M1 (α k) = mL M (α k) := fun k hk h => f.l (n k hk h)
  have ws1 : WS U G α M1 := (ws.fr f (fun k hk => n k (lc_bc (p := 0) hk).1 (by rcases hk with rfl | rfl | rfl | ⟨q, o, h1, h2, h3, rfl⟩ <;> omega))).u (hU 0 (by decide) (by decide)) (hU 9 (by decide) (by decide)) (hU 14 (by decide) (by decide)) (hU 15 (by decide) (by decide)) (hU 17 (by decide) (by decide)) (hU 38 (by decide) (by decide)) (hU 40 (by decide) (by decide)) (hU 44 (by decide) (by decide)) (hU 51 (by decide) (by decide))
  have e9 : un U 9 9 = un τ 9 9 := congrFun (un_e (hU 9 (by decide) (by decide))) 9
  obtain ⟨w1, w2, w3, w4, w5⟩ := wt
  have wt1 : WT U α M1 := by
    refine ⟨fun c hc => ?_, fun r hr => ?_, fun q hq => ?_, ?_, ?_⟩
    · rw [e9] at hc
      exact ((w1 c hc).cg (fun k _ => congrFun (ei _ (lv_c hc (show 0 < 10 by decide)) (by omega)) k) (fun o _ ho => ei _ (lv_c hc (show o < 10 by omega)) (by omega))).u (fun k hk => hU k (by omega) (by omega))
    · exact ((w2 r hr).cg (fun o ho => ei _ (lv_h hr (show o < 57 by omega)) (by omega)) (fun o ho => el _ (lv_h hr (show o < 57 by omega)) (by omega))).u (hU 30 (by decide) (by decide)) (hU 36 (by decide) (by decide)) (hU 37 (by decide) (by decide)) (hU 47 (by decide) (by decide)) (hU 50 (by decide) (by decide)) (hU 51 (by decide) (by decide)) (l2 45) (l2 49)
    · obtain ⟨b1, b2, b3, b4⟩ := w3 q hq
      have bb : ∀ s, s < 2 → BrF U (48 * q + 24 * s) (mI M1) (fun o => gO α q (11 + 12 * s + o)) := fun s hs => (BrF.cg (b3 s hs) (fun o ho => ei _ (lv_g hq (show 11 + 12 * s + o < 35 by omega)) (by rcases Nat.lt_trichotomy q c with z | z | z <;> omega))).u (hU 33 (by decide) (by decide)) (hU 34 (by decide) (by decide)) (hU 35 (by decide) (by decide))
      have b8 : ∀ m, m < 24 → mL M1 (gO α q 8) m = U.2 52 (24 * q + m) ∧ mL M1 (gO α q 9) m = U.2 53 (24 * q + m) ∧ mI M1 (gO α q 10) m = U.1 54 (24 * q + m) := by
        rw [show mL M1 (gO α q 8) = mL M (gO α q 8) from el _ (lv_g hq (by decide)) (by omega), show mL M1 (gO α q 9) = mL M (gO α q 9) from el _ (lv_g hq (by decide)) (by omega), show mI M1 (gO α q 10) = mI M (gO α q 10) from ei _ (lv_g hq (by decide)) (by omega), l2 52, l2 53, hU 54 (by decide) (by decide)]
        exact b4
      by_cases e : q = c
      · subst e
        have e1 : crV U q = upV (crV τ q) d (nI a) := upV_e (f := fun m => U.1 31 (24 * q + m)) (g := fun m => τ.1 31 (24 * q + m)) (nn32 (by omega)) ((u31 _).trans (if_pos rfl)) (fun m hm => (u31 _).trans (if_neg (by omega)))
        have e2 : clV U q = upV (clV τ q) d (nI b) := upV_e2 (f := fun m => U.1 31 (24 * q + m)) (g := fun m => τ.1 31 (24 * q + m)) (k := fun m => U.1 32 (24 * q + m)) (l := fun m => τ.1 32 (24 * q + m)) (a := nI a) (nn32 (by omega)) ((u31 _).trans (if_pos rfl)) (fun m hm => (u31 _).trans (if_neg (by omega))) ((u32 _).trans (if_pos rfl)) (fun m hm => (u32 _).trans (if_neg (by omega)))
        exact ⟨by rw [e1]; exact s1, by rw [e2]; exact s2, bb, b8⟩
      · have sv : ∀ {V W : Nat → Option Int32} {x y : Nat}, (∀ m, m < 24 → V m = W m) → mI M1 x = mI M x → mI M1 y = mI M y → StV V (mI M) x y 24 → StV W (mI M1) x y 24 := fun {V W x y} hv hx hy s m hm => by
          rw [hx, hy, ← hv m hm, ← lsV_cg (n := m + 1) (fun k hk => hv k (by omega))]
          exact s m hm
        have nq : ∀ m, m < 24 → ¬ 24 * q + m = 24 * c + d := fun m hm => by rcases Nat.lt_trichotomy q c with z | z | z <;> omega
        have v1 : ∀ m, m < 24 → crV τ q m = crV U q m := fun m hm => by unfold crV; rw [u31, if_neg (nq m hm)]
        have v2 : ∀ m, m < 24 → clV τ q m = clV U q m := fun m hm => by unfold clV; rw [u31, u32, if_neg (nq m hm), if_neg (nq m hm)]
        exact ⟨sv v1 (ei _ (lv_g hq (by decide)) (by omega)) (ei _ (lv_g hq (by decide)) (by omega)) b1, sv v2 (ei _ (lv_g hq (by decide)) (by omega)) (ei _ (lv_g hq (by decide)) (by omega)) b2, bb, b8⟩
    · obtain ⟨b1, b2, b3, b4, b5, b6, b7⟩ := w4
      have e0 : mI M1 (α 0) = mI M (α 0) := ei 0 (lv_s (by decide)) (by omega)
      unfold WTx
      rw [e0, un_e (hU 13 (by decide) (by decide)), un_e (hU 17 (by decide) (by decide)), un_e (hU 18 (by decide) (by decide)), un_e (hU 19 (by decide) (by decide)), un_e (hU 20 (by decide) (by decide)), un_e (hU 46 (by decide) (by decide))]
      exact ⟨b1, b2, b3, b4, b5, b6, (b7.cgs (fun o ho => ei (4 + o) (lv_s (by omega)) (by omega))).u (hU 22 (by decide) (by decide)) (hU 23 (by decide) (by decide)) (hU 24 (by decide) (by decide)) (hU 25 (by decide) (by decide)) (hU 26 (by decide) (by decide)) (hU 27 (by decide) (by decide))⟩
    · exact (w5.cg (fun k hk => congrFun (ei _ (lv_l hk) (by omega)) 1) (fun g hg => ei _ (lv_a hg (show 0 < 2 by decide)) (by omega)) (fun k hk => ⟨ei _ (lv_y hk) (by omega), el _ (lv_y hk) (by omega)⟩)).u (hU 15 (by decide) (by decide)) (hU 17 (by decide) (by decide)) (fun k a b => hU k (by omega) (by omega)) (hU 47 (by decide) (by decide)) (hU 48 (by decide) (by decide)) (hU 50 (by decide) (by decide)) (hU 51 (by decide) (by decide)) (l2 49)
  refine stale_w hwU ws1 wt1 (fun c hc hz => ?_) g h1
  rw [e9] at hc
  have hn : ∀ o, o < 10 → ¬ CbA α _ (cO α c o) := fun o ho => n _ (lv_c hc ho) (by omega)
  exact ((wb.1 c hc (by rw [← f.i (hn 0 (by decide))]; exact hz)).fr f (hn 7 (by decide)) (hn 8 (by decide))).u (fun k hk => hU k (by omega) (by omega))
theorem CbA.lc {τ : Mu} {α : Nat → Nat} {c k : Nat} (hi : INJ τ α) (hc : c < 3) (hk : LC k) : ¬ CbA α c (α k) := CbA.no hi hc (lc_bc (p := 0) hk).1 (by rcases hk with rfl | rfl | rfl | ⟨q, o, h1, h2, h3, rfl⟩ <;> omega)
theorem StV.fr {V : Nat → Option Int32} {A : Nat → Prop} {M M1 : Mem} {x y n : Nat} (f : frm A M M1) (hx : ¬ A x) (hy : ¬ A y) (h : StV V (mI M) x y n) : StV V (mI M1) x y n := by
  unfold StV
  rw [f.i hx, f.i hy]
  exact h
set_option maxHeartbeats 1000000 in
set_option maxRecDepth 100000 in
theorem c_X11_contribution (l : Launch) (hfl : l.flags = flags0) (G : gW) (M : Mem) (τ : Mu) (hw : WF τ) (α : Nat → Nat) (hws : WS τ G α M) (hwt : WT τ α M) (hwb : WB τ α M) (had : ∀ p, p < 6 → AD τ p) (x y z t : Int32) : CX l yX11_contribution cX11_contribution 5 none 7 2 12 102 G M [.ref (α 0), .int x, .int y, .int z, .int t] (fun v M' => PC τ G α M (cd2 (rng x 3 && rng y 24) (inB z (lN 0) (lN 500) && inB t (lN 0) (lN 100000000))) (sI (sI τ 31 (24 * x.toNatClampNeg + y.toNatClampNeg) z) 32 (24 * x.toNatClampNeg + y.toNatClampNeg) t) (none) v M') (fun E M' => XP M (cd2 (rng x 3 && rng y 24) (inB z (lN 0) (lN 500) && inB t (lN 0) (lN 100000000))) ["java/lang/IndexOutOfBoundsException", "java/lang/IllegalArgumentException"] E M') := by
  refine CX.of hfl rfl (Nat.le_of_ble_eq_true rfl) ?_
  intro pp ee ss mm ar bw mt cd C hgX hr hno
  have hx := hws.2.1
  have hwx := hwt.2.2.2.1
  have h9 := hw.nc.2
  have h13 := hw.sh.2
  have h17 := hw.nl.2
  have h26 := hw.ne.2
  have h44 := hw.ng.2
  have h46 := hw.op.2
  have h51 := hw.np.2
  refine V.eLo (lo' := [(0, .ref (α 0)), (1, .int x), (2, .int y), (3, .int z), (4, .int t)]) rfl ?_
  have jn19 : V pp l ee ({ frames := 7, cells := 2, slots := 12, locals := 102 } : Room) ss mm ar bw mt cd G (vx_MQ bw (Ke G (fun v M' => PC τ G α M (cd2 (rng x 3 && rng y 24) (inB z (lN 0) (lN 500) && inB t (lN 0) (lN 100000000))) (sI (sI τ 31 (24 * x.toNatClampNeg + y.toNatClampNeg) z) 32 (24 * x.toNatClampNeg + y.toNatClampNeg) t) (none) v M')) (Kx G (fun E M' => XP M (cd2 (rng x 3 && rng y 24) (inB z (lN 0) (lN 500) && inB t (lN 0) (lN 100000000))) ["java/lang/IndexOutOfBoundsException", "java/lang/IllegalArgumentException"] E M')) ar ss 2 12 (gA G)) 5 M 0 0 19 [(0, .ref (α 0)), (1, .int x), (2, .int y), (3, .int z), (4, .int t)] [.int (bI (rng x 3 && rng y 24))] := by
    skip
    refine r_xS C hgX hno ml_X11_55 st_X11_needThere (c_X11_needThere l hfl G M (rng x 3 && rng y 24)) rfl (Nat.le_of_ble_eq_true rfl) ⟨Nat.le_of_ble_eq_true rfl, Nat.le_of_ble_eq_true rfl⟩ ⟨Nat.le_of_ble_eq_true rfl, Nat.le_of_ble_eq_true rfl⟩ dX11_contribution_19 rfl (fun E_ M_ h_ => x_2a h_) ⟨Nat.le_of_ble_eq_true rfl, Nat.le_of_ble_eq_true rfl⟩ ?_
    rintro _ _ ⟨rfl, rfl, hq1⟩
    have hq := hq1
    have jn49 : V pp l ee ({ frames := 7, cells := 2, slots := 12, locals := 102 } : Room) ss mm ar bw mt cd G (vx_MQ bw (Ke G (fun v M' => PC τ G α M (cd2 (rng x 3 && rng y 24) (inB z (lN 0) (lN 500) && inB t (lN 0) (lN 100000000))) (sI (sI τ 31 (24 * x.toNatClampNeg + y.toNatClampNeg) z) 32 (24 * x.toNatClampNeg + y.toNatClampNeg) t) (none) v M')) (Kx G (fun E M' => XP M (cd2 (rng x 3 && rng y 24) (inB z (lN 0) (lN 500) && inB t (lN 0) (lN 100000000))) ["java/lang/IndexOutOfBoundsException", "java/lang/IllegalArgumentException"] E M')) ar ss 2 12 (gA G)) 5 M 1 6 49 [(0, .ref (α 0)), (1, .int x), (2, .int y), (3, .int z), (4, .int t)] [.int (bI (inB z (lN 0) (lN 500) && inB t (lN 0) (lN 100000000)))] := by
      skip
      refine r_xS C hgX hno ml_X11_64 st_X11_needFitting (c_X11_needFitting l hfl G M (inB z (lN 0) (lN 500) && inB t (lN 0) (lN 100000000))) rfl (Nat.le_of_ble_eq_true rfl) ⟨Nat.le_of_ble_eq_true rfl, Nat.le_of_ble_eq_true rfl⟩ ⟨Nat.le_of_ble_eq_true rfl, Nat.le_of_ble_eq_true rfl⟩ dX11_contribution_49 rfl (fun E_ M_ h_ => x_2b hq h_) ⟨Nat.le_of_ble_eq_true rfl, Nat.le_of_ble_eq_true rfl⟩ ?_
      rintro _ _ ⟨rfl, rfl, hq2⟩
      have hq2 := hq2
      obtain ⟨hqa, hqb⟩ := Bool.and_eq_true_iff.mp hq
      obtain ⟨c, hc, e_x⟩ := rng_t hqa
      obtain ⟨d, hd, e_y⟩ := rng_t hqb
      obtain ⟨hqc, hqd⟩ := Bool.and_eq_true_iff.mp hq2
      obtain ⟨a, ha0, ha, e_z⟩ := inB_N (by decide) (by decide) hqc
      obtain ⟨b, hb0, hb, e_t⟩ := inB_N (by decide) (by decide) hqd
      have hwsO := hws
      have hg := (hws.2.2.2.1 c hc).1
      refine V.eLo (lo' := [(0, .ref (α 0)), (1, .int (nI c)), (2, .int (nI d)), (3, .int (nI a)), (4, .int (nI b))]) (by rw [e_x, e_y, e_z, e_t]) ?_
      refine r_aload_n C 0 dX11_contribution_52 rfl rfl ?_
      refine r_getR C (b := (α 3)) fl_X11_24 rfl (hx.k 0 14 rfl) (hx.r 0 2 3 rfl) dX11_contribution_53 ?_
      refine r_iload_n C 1 dX11_contribution_56 rfl rfl ?_
      refine r_aaloadN C (b := (gO α c 0)) 2 (by decide) (hx.k 3 25 rfl) (hx.n 3 3 rfl) (by omega) (by omega) (hws.2.2.2.1 c (by omega)).2 dX11_contribution_57 ?_
      refine r_getR C (b := (gO α c 1)) fl_X11_220 rfl (hg.k 0 12 rfl) (hg.r 0 0 1 rfl) dX11_contribution_58 ?_
      refine r_iload_n C 2 dX11_contribution_61 rfl rfl ?_
      refine r_iload_n C 3 dX11_contribution_62 rfl rfl ?_
      refine r_callV C hgX (ci := 12) ml_X11_83 im_X10_tell se_X10_tell rfl rfl (hg.k 1 13 rfl) (c_X10_tell l hfl G M (fun o => gO α c (1 + o)) 24 (by decide) (hg.sub (tbSt 24) 1 rfl) (crV τ c) (hwt.2.2.1 c hc).1 d a (by omega)) rfl (Nat.le_of_ble_eq_true rfl) ⟨Nat.le_of_ble_eq_true rfl, Nat.le_of_ble_eq_true rfl⟩ ⟨Nat.le_of_ble_eq_true rfl, Nat.le_of_ble_eq_true rfl⟩ dX11_contribution_63 rfl ?_
      rintro _ My3 ⟨rfl, hfm3, hsv3⟩
      have hfb1 : frm (CbA α c) M My3 := hfm3.mono (fun a h => h.elim (fun e => ⟨2, by decide, by decide, e⟩) (fun e => ⟨3, by decide, by decide, e⟩))
      have hV2 : StV (clV τ c) (mI My3) (gO α c 5) (gO α c 6) 24 := (hwt.2.2.1 c hc).2.1.fr hfm3 (fun q => q.elim (hg.ne 5 2 rfl) (hg.ne 5 3 rfl)) (fun q => q.elim (hg.ne 6 2 rfl) (hg.ne 6 3 rfl))
      have hg := hfb1.blk hg
      have hs1a := hsv3
      have hws := hwsO.fr hfb1 (fun k hk => CbA.lc hwsO.1 hc hk)
      have hx := hws.2.1
      refine r_aload_n C 0 dX11_contribution_66 rfl rfl ?_
      refine r_getR C (b := (α 3)) fl_X11_24 rfl (hx.k 0 14 rfl) (hx.r 0 2 3 rfl) dX11_contribution_67 ?_
      refine r_iload_n C 1 dX11_contribution_70 rfl rfl ?_
      refine r_aaloadN C (b := (gO α c 0)) 2 (by decide) (hx.k 3 25 rfl) (hx.n 3 3 rfl) (by omega) (by omega) (hws.2.2.2.1 c (by omega)).2 dX11_contribution_71 ?_
      refine r_getR C (b := (gO α c 4)) fl_X11_223 rfl (hg.k 0 12 rfl) (hg.r 0 1 4 rfl) dX11_contribution_72 ?_
      refine r_iload_n C 2 dX11_contribution_75 rfl rfl ?_
      refine r_iload C 4 dX11_contribution_76 rfl ?_
      refine r_callV C hgX (ci := 12) ml_X11_83 im_X10_tell se_X10_tell rfl rfl (hg.k 4 13 rfl) (c_X10_tell l hfl G My3 (fun o => gO α c (4 + o)) 24 (by decide) (hg.sub (tbSt 24) 4 rfl) (clV τ c) hV2 d b (by omega)) rfl (Nat.le_of_ble_eq_true rfl) ⟨Nat.le_of_ble_eq_true rfl, Nat.le_of_ble_eq_true rfl⟩ ⟨Nat.le_of_ble_eq_true rfl, Nat.le_of_ble_eq_true rfl⟩ dX11_contribution_78 rfl ?_
      rintro _ My4 ⟨rfl, hfm4, hsv4⟩
      have hfb2 : frm (CbA α c) M My4 := hfb1.tr (hfm4.mono (fun a h => h.elim (fun e => ⟨5, by decide, by decide, e⟩) (fun e => ⟨6, by decide, by decide, e⟩)))
      have hs2 : StV (upV (clV τ c) d (nI b)) (mI My4) (gO α c 5) (gO α c 6) 24 := hsv4
      have hs1 : StV (upV (crV τ c) d (nI a)) (mI My4) (gO α c 2) (gO α c 3) 24 := StV.fr (x := gO α c 2) (y := gO α c 3) hfm4 (fun q => q.elim (hg.ne 2 5 rfl) (hg.ne 2 6 rfl)) (fun q => q.elim (hg.ne 3 5 rfl) (hg.ne 3 6 rfl)) hs1a
      have hg := hfb2.blk (hwsO.2.2.2.1 c hc).1
      have hws := hwsO.fr hfb2 (fun k hk => CbA.lc hwsO.1 hc hk)
      have hx := hws.2.1
      refine r_aload_n C 0 dX11_contribution_81 rfl rfl ?_
      refine r_callV C hgX (ci := 13) ml_X11_161 im_X11_makeAllStale se_X11_makeAllStale rfl rfl (hx.k 0 14 rfl) (c_X11_makeAllStale l hfl G My4 τ α hws) rfl (Nat.le_of_ble_eq_true rfl) ⟨Nat.le_of_ble_eq_true rfl, Nat.le_of_ble_eq_true rfl⟩ ⟨Nat.le_of_ble_eq_true rfl, Nat.le_of_ble_eq_true rfl⟩ dX11_contribution_82 rfl ?_
      rintro _ My5 ⟨rfl, hsa5, hsf5⟩
      refine V.xret ?_
      exact r_vret C hr (⟨k_2 hq hq2, rfl, α, by rw [e_x, e_y, e_z, e_t, nI_clamp (n := c) (by omega), nI_clamp (n := d) (by omega)]; exact cb_w hc hd ha hb hw hwsO hwt hwb hfb2 hs1 hs2 hsa5 hsf5, rfl, CF.tr2 hfb2 hsa5 (fun a h => CbA.lv hc h) (fun a h => StA.lv h), fun _ _ hz_ k_ hk_ => hz_ k_ (LV.u rfl rfl rfl rfl hk_)⟩) (by first | exact Nat.zero_le _ | decide) (by first | exact Nat.zero_le _ | decide) dX11_contribution_85
    refine r_iload_n C 3 dX11_contribution_22 rfl rfl ?_
    refine r_iconst C (v := nI 0) dX11_contribution_23 (by decide) ?_
    refine r_sipush C (v := nI 500) dX11_contribution_24 (by decide) ?_
    refine r_callS C hgX ml_X11_59 st_X11_isWithin (c_X11_isWithin l hfl G M z (nI 0) (nI 500)) rfl (Nat.le_of_ble_eq_true rfl) ⟨Nat.le_of_ble_eq_true rfl, Nat.le_of_ble_eq_true rfl⟩ ⟨Nat.le_of_ble_eq_true rfl, Nat.le_of_ble_eq_true rfl⟩ dX11_contribution_27 rfl ?_
    rintro _ _ ⟨rfl, rfl⟩
    refine V.eSt (st' := [.int (bI (inB z (nI 0).toInt64 (nI 500).toInt64))]) rfl ?_
    refine V.ei (y := bI (inB z (lN 0) (lN 500))) rfl ?_
    refine r_if_eqB C (t := 48) dX11_contribution_30 (by decide) (fun c30 => ?_) (fun c30 => ?_)
    · skip
      refine r_iconst C (v := nI 0) dX11_contribution_48 (by decide) ?_
      refine V.eSt (st' := [.int (bI false)]) rfl ?_
      refine V.ei (y := bI (inB z (lN 0) (lN 500) && inB t (lN 0) (lN 100000000))) (congrArg bI (by simp [c30])) ?_
      exact jn49
    · skip
      refine r_iload C 4 dX11_contribution_33 rfl ?_
      refine r_iconst C (v := nI 0) dX11_contribution_35 (by decide) ?_
      refine r_ldc C (v := 100000000) ki_X11_219 dX11_contribution_36 ?_
      refine V.ei (y := nI 100000000) (by decide) ?_
      refine r_callS C hgX ml_X11_59 st_X11_isWithin (c_X11_isWithin l hfl G M t (nI 0) (nI 100000000)) rfl (Nat.le_of_ble_eq_true rfl) ⟨Nat.le_of_ble_eq_true rfl, Nat.le_of_ble_eq_true rfl⟩ ⟨Nat.le_of_ble_eq_true rfl, Nat.le_of_ble_eq_true rfl⟩ dX11_contribution_38 rfl ?_
      rintro _ _ ⟨rfl, rfl⟩
      refine V.eSt (st' := [.int (bI (inB t (nI 0).toInt64 (nI 100000000).toInt64))]) rfl ?_
      refine V.ei (y := bI (inB t (lN 0) (lN 100000000))) rfl ?_
      refine r_if_eqB C (t := 48) dX11_contribution_41 (by decide) (fun c41 => ?_) (fun c41 => ?_)
      · skip
        refine r_iconst C (v := nI 0) dX11_contribution_48 (by decide) ?_
        refine V.eSt (st' := [.int (bI false)]) rfl ?_
        refine V.ei (y := bI (inB z (lN 0) (lN 500) && inB t (lN 0) (lN 100000000))) (congrArg bI (by simp [c30, c41])) ?_
        exact jn49
      · skip
        refine r_iconst C (v := nI 1) dX11_contribution_44 (by decide) ?_
        refine r_goto C (t := 49) dX11_contribution_45 (by decide) ?_
        refine V.eSt (st' := [.int (bI true)]) rfl ?_
        refine V.ei (y := bI (inB z (lN 0) (lN 500) && inB t (lN 0) (lN 100000000))) (congrArg bI (by simp [c30, c41])) ?_
        exact jn49
  refine r_iload_n C 1 dX11_contribution_0 rfl rfl ?_
  refine r_callS C hgX ml_X11_49 st_X11_isPlace (c_X11_isPlace l hfl G M x) rfl (Nat.le_of_ble_eq_true rfl) ⟨Nat.le_of_ble_eq_true rfl, Nat.le_of_ble_eq_true rfl⟩ ⟨Nat.le_of_ble_eq_true rfl, Nat.le_of_ble_eq_true rfl⟩ dX11_contribution_1 rfl ?_
  rintro _ _ ⟨rfl, rfl⟩
  refine V.eSt (st' := [.int (bI (rng x 3))]) rfl ?_
  refine r_if_eqB C (t := 18) dX11_contribution_4 (by decide) (fun c4 => ?_) (fun c4 => ?_)
  · skip
    refine r_iconst C (v := nI 0) dX11_contribution_18 (by decide) ?_
    refine V.eSt (st' := [.int (bI false)]) rfl ?_
    refine V.ei (y := bI (rng x 3 && rng y 24)) (congrArg bI (by simp [c4])) ?_
    exact jn19
  · skip
    refine r_iload_n C 2 dX11_contribution_7 rfl rfl ?_
    refine r_callS C hgX ml_X11_141 st_X11_isMonth (c_X11_isMonth l hfl G M y) rfl (Nat.le_of_ble_eq_true rfl) ⟨Nat.le_of_ble_eq_true rfl, Nat.le_of_ble_eq_true rfl⟩ ⟨Nat.le_of_ble_eq_true rfl, Nat.le_of_ble_eq_true rfl⟩ dX11_contribution_8 rfl ?_
    rintro _ _ ⟨rfl, rfl⟩
    refine V.eSt (st' := [.int (bI (rng y 24))]) rfl ?_
    refine r_if_eqB C (t := 18) dX11_contribution_11 (by decide) (fun c11 => ?_) (fun c11 => ?_)
    · skip
      refine r_iconst C (v := nI 0) dX11_contribution_18 (by decide) ?_
      refine V.eSt (st' := [.int (bI false)]) rfl ?_
      refine V.ei (y := bI (rng x 3 && rng y 24)) (congrArg bI (by simp [c4, c11])) ?_
      exact jn19
    · skip
      refine r_iconst C (v := nI 1) dX11_contribution_14 (by decide) ?_
      refine r_goto C (t := 19) dX11_contribution_15 (by decide) ?_
      refine V.eSt (st' := [.int (bI true)]) rfl ?_
      refine V.ei (y := bI (rng x 3 && rng y 24)) (congrArg bI (by simp [c4, c11])) ?_
      exact jn19

