/-! THE CLASS: contributions and taxes of a month -/
/-- what a place's cells hold of its tables -/
def PlT (τ : Mu) (q : Nat) (M : Mem) (g : Nat → Nat) : Prop := Blk tbPl (mK M) (mN M) (mR M) g ∧ (∀ m, m < 24 → mI M (g 2) m = nI (crN τ q m)) ∧ (∀ m, m < 24 → mI M (g 5) m = nI (ceilN τ q m)) ∧ ∀ s, s < 2 → BrF τ (48 * q + 24 * s) (mI M) (fun o => g (11 + 12 * s + o))
def PeT (τ : Mu) (p : Nat) (M : Mem) (h : Nat → Nat) : Prop := Blk tbPe (mK M) (mN M) (mR M) h ∧ (∀ m, m < 24 → mI M (h 5) m = nI (stN τ p m)) ∧ ∀ m, m < 24 → mI M (h 8) m = nI (ptN τ p m)
theorem Blk.br {K N : Nat → Nat} {R : Nat → Nat → Option Nat} {g : Nat → Nat} (h : Blk tbPl K N R g) : ∀ s, s < 2 → Blk tbBr K N R (fun o => g (11 + 12 * s + o)) := by
  intro s hs
  rcases (show s = 0 ∨ s = 1 by omega) with rfl | rfl
  · exact h.sub tbBr 11 rfl
  · exact h.sub tbBr 23 rfl
theorem Blk.prr {K N : Nat → Nat} {R : Nat → Nat → Option Nat} {g : Nat → Nat} (h : Blk tbPl K N R g) : ∀ s, s < 2 → R (g 7) s = some (g (11 + 12 * s)) := fun s hs => h.rp 7 11 2 12 rfl s hs
theorem er_gY {τ : Mu} {p q m r : Nat} {j : Nat → Nat → Int64} (h : m % 12 ≠ 0 → j r (m - 1) = gY τ p q (m / 12) (m % 12)) : erL j r m = gY τ p q (m / 12) (m % 12) := by
  unfold erL
  by_cases z : m % 12 = 0
  · rw [if_pos z, z]; rfl
  · rw [if_neg z, h z]
theorem er_ctY {τ : Mu} {p q m r : Nat} {j : Nat → Nat → Int64} (h : m % 12 ≠ 0 → j r (m - 1) = ctY τ p q (m / 12) (m % 12)) : erL j r m = ctY τ p q (m / 12) (m % 12) := by
  unfold erL
  by_cases z : m % 12 = 0
  · rw [if_pos z, z]; rfl
  · rw [if_neg z, h z]
theorem er_txY {τ : Mu} {p q m r : Nat} {j : Nat → Nat → Int64} (h : m % 12 ≠ 0 → j r (m - 1) = txY τ p q (m / 12) (m % 12)) : erL j r m = txY τ p q (m / 12) (m % 12) := by
  unfold erL
  by_cases z : m % 12 = 0
  · rw [if_pos z, z]; rfl
  · rw [if_neg z, h z]
theorem er_du {τ : Mu} {p q m r : Nat} {j : Nat → Nat → Int64} (h : m % 12 ≠ 0 → j r (m - 1) = duL τ p (m - 1) q) : erL j r m = if m % 12 = 0 then 0 else duL τ p (m - 1) q := by
  unfold erL
  by_cases z : m % 12 = 0
  · rw [if_pos z, if_pos z]; rfl
  · rw [if_neg z, if_neg z, h z]
theorem ctY_m {τ : Mu} {p q m : Nat} : ctY τ p q (m / 12) (m % 12 + 1) = ctY τ p q (m / 12) (m % 12) + ctL τ p m q := by
  show ctY τ p q (m / 12) (m % 12) + ctM τ q (m / 12 * 12 + m % 12) (gY τ p q (m / 12) (m % 12) + grL τ p (m / 12 * 12 + m % 12) q) (ctY τ p q (m / 12) (m % 12)) = _
  rw [show m / 12 * 12 + m % 12 = m by omega]
  rfl
section Con
variable {τ : Mu} {M : Mem} {f : Nat → Nat} {p m q : Nat}
theorem bk_n {K N : Nat → Nat} {R : Nat → Nat → Option Nat} {f : Nat → Nat} (hb : Blk tbBk K N R f) {o t : Nat} (h1 : o < 42) (h2 : t < 42) (h3 : o ≠ t) : f o ≠ f t := hb.neq (show o < 42 from h1) (show t < 42 from h2) h3
theorem con_1 (hb : Blk tbBk (mK M) (mN M) (mR M) f) (hq : q < 3) : mL (wL (wL (wL M (f (6 + q)) m (coL τ p m q)) (f (14 + q)) m (gY τ p q (m / 12) (m % 12) + grL τ p m q)) (f (18 + q)) m (ctY τ p q (m / 12) (m % 12) + ctL τ p m q)) (f (6 + q)) m = coL τ p m q := by
  rw [wL_a (bk_n hb (by omega) (by omega) (by omega)), wL_a (bk_n hb (by omega) (by omega) (by omega)), wL_i]
theorem con_2 (hb : Blk tbBk (mK M) (mN M) (mR M) f) (hq : q < 3) : mL (wL (wL (wL M (f (6 + q)) m (coL τ p m q)) (f (14 + q)) m (gY τ p q (m / 12) (m % 12) + grL τ p m q)) (f (18 + q)) m (ctY τ p q (m / 12) (m % 12) + ctL τ p m q)) (f (14 + q)) m = gY τ p q (m / 12) (m % 12) + grL τ p m q := by
  rw [wL_a (bk_n hb (by omega) (by omega) (by omega)), wL_i]
theorem con_3 (hb : Blk tbBk (mK M) (mN M) (mR M) f) (hq : q < 3) : mL (wL (wL (wL M (f (6 + q)) m (coL τ p m q)) (f (14 + q)) m (gY τ p q (m / 12) (m % 12) + grL τ p m q)) (f (18 + q)) m (ctY τ p q (m / 12) (m % 12) + ctL τ p m q)) (f (18 + q)) m = ctY τ p q (m / 12) (m % 12 + 1) := by
  rw [wL_i, ctY_m]
theorem con_4 (hb : Blk tbBk (mK M) (mN M) (mR M) f) (hq : q < 3) : ∀ k, k ≠ m → mL (wL (wL (wL M (f (6 + q)) m (coL τ p m q)) (f (14 + q)) m (gY τ p q (m / 12) (m % 12) + grL τ p m q)) (f (18 + q)) m (ctY τ p q (m / 12) (m % 12) + ctL τ p m q)) (f (6 + q)) k = mL M (f (6 + q)) k ∧ mL (wL (wL (wL M (f (6 + q)) m (coL τ p m q)) (f (14 + q)) m (gY τ p q (m / 12) (m % 12) + grL τ p m q)) (f (18 + q)) m (ctY τ p q (m / 12) (m % 12) + ctL τ p m q)) (f (14 + q)) k = mL M (f (14 + q)) k ∧ mL (wL (wL (wL M (f (6 + q)) m (coL τ p m q)) (f (14 + q)) m (gY τ p q (m / 12) (m % 12) + grL τ p m q)) (f (18 + q)) m (ctY τ p q (m / 12) (m % 12) + ctL τ p m q)) (f (18 + q)) k = mL M (f (18 + q)) k := by
  intro k hk
  refine ⟨?_, ?_, ?_⟩
  · rw [wL_a (bk_n hb (by omega) (by omega) (by omega)), wL_a (bk_n hb (by omega) (by omega) (by omega)), wL_k hk]
  · rw [wL_a (bk_n hb (by omega) (by omega) (by omega)), wL_k hk, wL_a (bk_n hb (by omega) (by omega) (by omega))]
  · rw [wL_k hk, wL_a (bk_n hb (by omega) (by omega) (by omega)), wL_a (bk_n hb (by omega) (by omega) (by omega))]
end Con
set_option maxHeartbeats 4000000 in
set_option maxRecDepth 100000 in
theorem c_X0_contribute (l : Launch) (hfl : l.flags = flags0) (G : gW) (M : Mem) (f : Nat → Nat) (hb : Blk tbBk (mK M) (mN M) (mR M) f) (g : Nat → Nat) (hg : Blk tbPl (mK M) (mN M) (mR M) g) (τ : Mu) (hw : WF τ) (p m q : Nat) (hm : m < 24) (hq : q < 3) (hcr : mI M (g 2) m = nI (crN τ q m)) (hce : mI M (g 5) m = nI (ceilN τ q m)) (hgr : mL M (f (2 + q)) m = grL τ p m q) (h14 : m % 12 ≠ 0 → mL M (f (14 + q)) (m - 1) = gY τ p q (m / 12) (m % 12)) (h18 : m % 12 ≠ 0 → mL M (f (18 + q)) (m - 1) = ctY τ p q (m / 12) (m % 12)) : CT l yX0_contribute cX0_contribute 10 none 2 0 0 53 G M [.ref (f 0), .int (nI m), .int (nI q), .ref (g 0)] (fun v M' => v = none ∧ frm (fun a => a = f (6 + q) ∨ a = f (14 + q) ∨ a = f (18 + q)) M M' ∧ mL M' (f (6 + q)) m = coL τ p m q ∧ mL M' (f (14 + q)) m = gY τ p q (m / 12) (m % 12) + grL τ p m q ∧ mL M' (f (18 + q)) m = ctY τ p q (m / 12) (m % 12 + 1) ∧ (∀ k, k ≠ m → mL M' (f (6 + q)) k = mL M (f (6 + q)) k ∧ mL M' (f (14 + q)) k = mL M (f (14 + q)) k ∧ mL M' (f (18 + q)) k = mL M (f (18 + q)) k) ∧ mI M' = mI M) := by
  refine CT.of hfl rfl (Nat.le_of_ble_eq_true rfl) ?_
  intro pp ee ss mm ar bw mt cd C hgX hr hini
  have hcl := ceilN_le hw hq hm
  have hrl := crN_le hw hq hm
  refine V.eLo (lo' := [(0, .ref (f 0)), (1, .int (nI m)), (2, .int (nI q)), (3, .ref (g 0))]) rfl ?_
  refine r_aload_n C 0 dX0_contribute_0 rfl rfl ?_
  refine r_getR C (b := (f 13)) fl_X0_26 rfl (hb.k 0 4 rfl) (hb.r 0 4 13 rfl) dX0_contribute_1 ?_
  refine r_iload_n C 1 dX0_contribute_4 rfl rfl ?_
  refine r_iload_n C 2 dX0_contribute_5 rfl rfl ?_
  refine r_callS C hgX ml_X0_156 st_X0_earlier (c_X0_earlier l hfl G M (f 13) (f (14 + q)) m q (hb.k 13 28 rfl) (hb.n 13 3 rfl) (hb.ro 13 14 3 14 rfl q hq) (hb.ko 14 21 3 rfl q hq) (hb.no 14 24 3 rfl q hq) hq hm) rfl (Nat.le_of_ble_eq_true rfl) ⟨Nat.le_of_ble_eq_true rfl, Nat.le_of_ble_eq_true rfl⟩ ⟨Nat.le_of_ble_eq_true rfl, Nat.le_of_ble_eq_true rfl⟩ dX0_contribute_6 rfl ?_
  rintro _ _ ⟨rfl, rfl⟩
  refine V.eSt (st' := [.long (erL (mL M) (f (14 + q)) m)]) rfl ?_
  refine V.el (y := gY τ p q (m / 12) (m % 12)) (er_gY h14) ?_
  refine r_aload_n C 0 dX0_contribute_9 rfl rfl ?_
  refine r_getR C (b := (f 1)) fl_X0_17 rfl (hb.k 0 4 rfl) (hb.r 0 1 1 rfl) dX0_contribute_10 ?_
  refine r_iload_n C 2 dX0_contribute_13 rfl rfl ?_
  refine r_aaloadN C (b := (f (2 + q))) 5 (by decide) (hb.k 1 28 rfl) (hb.n 1 3 rfl) (by omega) (by omega) (hb.ro 1 2 3 1 rfl q (by omega)) dX0_contribute_14 ?_
  refine r_iload_n C 1 dX0_contribute_15 rfl rfl ?_
  refine r_laloadN C (hb.ko 2 21 3 rfl q (by omega)) (hb.no 2 24 3 rfl q (by omega)) (by omega) (by omega) dX0_contribute_16 ?_
  refine V.el (y := grL τ p m q) (hgr) ?_
  refine r_ladd C dX0_contribute_17 ?_
  refine r_lstore C (lo' := [(4, .long ((gY τ p q (m / 12) (m % 12)) + (grL τ p m q))), (0, .ref (f 0)), (1, .int (nI m)), (2, .int (nI q)), (3, .ref (g 0))]) dX0_contribute_18 (by decide) rfl ?_
  refine r_aload_n C 1 dX0_contribute_20 rfl rfl ?_
  refine r_getR C (b := (f 17)) fl_X0_29 rfl (hb.k 0 4 rfl) (hb.r 0 5 17 rfl) dX0_contribute_21 ?_
  refine r_iload_n C 2 dX0_contribute_24 rfl rfl ?_
  refine r_iload_n C 3 dX0_contribute_25 rfl rfl ?_
  refine r_callS C hgX ml_X0_156 st_X0_earlier (c_X0_earlier l hfl G M (f 17) (f (18 + q)) m q (hb.k 17 28 rfl) (hb.n 17 3 rfl) (hb.ro 17 18 3 18 rfl q hq) (hb.ko 18 21 3 rfl q hq) (hb.no 18 24 3 rfl q hq) hq hm) rfl (Nat.le_of_ble_eq_true rfl) ⟨Nat.le_of_ble_eq_true rfl, Nat.le_of_ble_eq_true rfl⟩ ⟨Nat.le_of_ble_eq_true rfl, Nat.le_of_ble_eq_true rfl⟩ dX0_contribute_26 rfl ?_
  rintro _ _ ⟨rfl, rfl⟩
  refine V.eSt (st' := [.long (erL (mL M) (f (18 + q)) m)]) rfl ?_
  refine V.el (y := ctY τ p q (m / 12) (m % 12)) (er_ctY h18) ?_
  refine r_lstore C (lo' := [(6, .long (ctY τ p q (m / 12) (m % 12))), (4, .long ((gY τ p q (m / 12) (m % 12)) + (grL τ p m q))), (0, .ref (f 0)), (1, .int (nI m)), (2, .int (nI q)), (3, .ref (g 0))]) dX0_contribute_29 (by decide) rfl ?_
  refine r_lconst C (v := lN 0) dX0_contribute_31 (by decide) ?_
  refine r_lload C 1 dX0_contribute_32 rfl ?_
  refine r_aload_n C 5 dX0_contribute_34 rfl rfl ?_
  refine r_getR C (b := (g 4)) fl_X0_160 rfl (hg.k 0 12 rfl) (hg.r 0 1 4 rfl) dX0_contribute_35 ?_
  refine r_iload_n C 3 dX0_contribute_38 rfl rfl ?_
  refine r_callV C hgX (ci := 12) ml_X0_120 im_X10_at se_X10_at rfl rfl (hg.k 4 13 rfl) (c_X10_at l hfl G M (g 4) (g 5) (g 6) 24 m (⟨hg.k 4 13 rfl, hg.r 4 0 5 rfl, hg.r 4 1 6 rfl, hg.k 5 20 rfl, hg.n 5 24 rfl, hg.k 6 22 rfl, hg.n 6 24 rfl⟩) (by decide) (by omega)) rfl (Nat.le_of_ble_eq_true rfl) ⟨Nat.le_of_ble_eq_true rfl, Nat.le_of_ble_eq_true rfl⟩ ⟨Nat.le_of_ble_eq_true rfl, Nat.le_of_ble_eq_true rfl⟩ dX0_contribute_39 rfl ?_
  rintro _ _ ⟨rfl, rfl⟩
  refine V.eSt (st' := [.int (mI M (g 5) m), .long ((gY τ p q (m / 12) (m % 12)) + (grL τ p m q)), .long (lN 0)]) rfl ?_
  refine V.ei (y := nI (ceilN τ q m)) (hce) ?_
  refine r_i2lN C (by omega) dX0_contribute_42 ?_
  refine r_minL C km_X0_163 (Nat.le_of_ble_eq_true rfl) (Nat.le_of_ble_eq_true rfl) (by first | exact Nat.zero_le _ | decide) (by first | exact Nat.zero_le _ | decide) dX0_contribute_43 ?_
  refine r_lload C 0 dX0_contribute_46 rfl ?_
  refine r_lsub C dX0_contribute_48 ?_
  refine r_maxL C km_X0_134 (Nat.le_of_ble_eq_true rfl) (Nat.le_of_ble_eq_true rfl) (by first | exact Nat.zero_le _ | decide) (by first | exact Nat.zero_le _ | decide) dX0_contribute_49 ?_
  refine V.el (y := ctL τ p m q) (by rw [lmax_pz, lmin_mn]; rfl) ?_
  refine r_lstore C (lo' := [(8, .long (ctL τ p m q)), (6, .long (ctY τ p q (m / 12) (m % 12))), (4, .long ((gY τ p q (m / 12) (m % 12)) + (grL τ p m q))), (0, .ref (f 0)), (1, .int (nI m)), (2, .int (nI q)), (3, .ref (g 0))]) dX0_contribute_52 (by decide) rfl ?_
  refine r_aload_n C 3 dX0_contribute_54 rfl rfl ?_
  refine r_getR C (b := (f 5)) fl_X0_20 rfl (hb.k 0 4 rfl) (hb.r 0 2 5 rfl) dX0_contribute_55 ?_
  refine r_iload_n C 5 dX0_contribute_58 rfl rfl ?_
  refine r_aaloadN C (b := (f (6 + q))) 5 (by decide) (hb.k 5 28 rfl) (hb.n 5 3 rfl) (by omega) (by omega) (hb.ro 5 6 3 1 rfl q (by omega)) dX0_contribute_59 ?_
  refine r_iload_n C 4 dX0_contribute_60 rfl rfl ?_
  refine r_lload C 0 dX0_contribute_61 rfl ?_
  refine r_aload_n C 6 dX0_contribute_63 rfl rfl ?_
  refine r_getR C (b := (g 1)) fl_X0_165 rfl (hg.k 0 12 rfl) (hg.r 0 0 1 rfl) dX0_contribute_64 ?_
  refine r_iload_n C 4 dX0_contribute_67 rfl rfl ?_
  refine r_callV C hgX (ci := 12) ml_X0_120 im_X10_at se_X10_at rfl rfl (hg.k 1 13 rfl) (c_X10_at l hfl G M (g 1) (g 2) (g 3) 24 m (⟨hg.k 1 13 rfl, hg.r 1 0 2 rfl, hg.r 1 1 3 rfl, hg.k 2 20 rfl, hg.n 2 24 rfl, hg.k 3 22 rfl, hg.n 3 24 rfl⟩) (by decide) (by omega)) rfl (Nat.le_of_ble_eq_true rfl) ⟨Nat.le_of_ble_eq_true rfl, Nat.le_of_ble_eq_true rfl⟩ ⟨Nat.le_of_ble_eq_true rfl, Nat.le_of_ble_eq_true rfl⟩ dX0_contribute_68 rfl ?_
  rintro _ _ ⟨rfl, rfl⟩
  refine V.eSt (st' := [.int (mI M (g 2) m), .long (ctL τ p m q), .int (nI m), .ref (f (6 + q))]) rfl ?_
  refine V.ei (y := nI (crN τ q m)) (hcr) ?_
  refine r_i2lN C (by omega) dX0_contribute_71 ?_
  refine r_lmul C dX0_contribute_72 ?_
  refine r_ldc2 C (v := 1000) kl_X0_126 dX0_contribute_73 ?_
  refine V.el (y := lN 1000) (by decide) ?_
  refine r_callS C hgX ml_X0_128 st_X2_rounded (c_X2_rounded l hfl G M ((ctL τ p m q) * (lN (crN τ q m))) 1000 (by omega)) rfl (Nat.le_of_ble_eq_true rfl) ⟨Nat.le_of_ble_eq_true rfl, Nat.le_of_ble_eq_true rfl⟩ ⟨Nat.le_of_ble_eq_true rfl, Nat.le_of_ble_eq_true rfl⟩ dX0_contribute_76 rfl ?_
  rintro _ _ ⟨rfl, rfl⟩
  refine V.eSt (st' := [.long (rdF ((ctL τ p m q) * (lN (crN τ q m))) (lN 1000)), .int (nI m), .ref (f (6 + q))]) rfl ?_
  refine V.el (y := coL τ p m q) (rdF_rnd (by decide) (by decide)) ?_
  refine r_lastoreN C (hb.ko 6 21 3 rfl q (by omega)) (hb.no 6 24 3 rfl q (by omega)) (by omega) (by omega) dX0_contribute_79 ?_
  refine r_aload_n C 3 dX0_contribute_80 rfl rfl ?_
  refine r_getR C (b := (f 13)) fl_X0_26 rfl (hb.k 0 4 rfl) (hb.r 0 4 13 rfl) dX0_contribute_81 ?_
  refine r_iload_n C 5 dX0_contribute_84 rfl rfl ?_
  refine r_aaloadN C (b := (f (14 + q))) 5 (by decide) (hb.k 13 28 rfl) (hb.n 13 3 rfl) (by omega) (by omega) (hb.ro 13 14 3 1 rfl q (by omega)) dX0_contribute_85 ?_
  refine r_iload_n C 4 dX0_contribute_86 rfl rfl ?_
  refine r_lload C 2 dX0_contribute_87 rfl ?_
  refine r_lastoreN C (hb.ko 14 21 3 rfl q (by omega)) (hb.no 14 24 3 rfl q (by omega)) (by omega) (by omega) dX0_contribute_89 ?_
  refine r_aload_n C 3 dX0_contribute_90 rfl rfl ?_
  refine r_getR C (b := (f 17)) fl_X0_29 rfl (hb.k 0 4 rfl) (hb.r 0 5 17 rfl) dX0_contribute_91 ?_
  refine r_iload_n C 5 dX0_contribute_94 rfl rfl ?_
  refine r_aaloadN C (b := (f (18 + q))) 5 (by decide) (hb.k 17 28 rfl) (hb.n 17 3 rfl) (by omega) (by omega) (hb.ro 17 18 3 1 rfl q (by omega)) dX0_contribute_95 ?_
  refine r_iload_n C 4 dX0_contribute_96 rfl rfl ?_
  refine r_lload C 1 dX0_contribute_97 rfl ?_
  refine r_lload C 0 dX0_contribute_99 rfl ?_
  refine r_ladd C dX0_contribute_101 ?_
  refine r_lastoreN C (hb.ko 18 21 3 rfl q (by omega)) (hb.no 18 24 3 rfl q (by omega)) (by omega) (by omega) dX0_contribute_102 ?_
  exact r_vret C hr (⟨rfl, (frm.rf _ _).wl _ _ (.inl rfl) |>.wl _ _ (.inr (.inl rfl)) |>.wl _ _ (.inr (.inr rfl)), con_1 hb hq, con_2 hb hq, con_3 hb hq, con_4 hb hq, rfl⟩) (by first | exact Nat.zero_le _ | decide) (by first | exact Nat.zero_le _ | decide) dX0_contribute_103
section Tax
variable {τ : Mu} {M : Mem} {f : Nat → Nat} {p m q : Nat}
theorem tax_1 (hb : Blk tbBk (mK M) (mN M) (mR M) f) (hq : q < 3) : mL (wL (wL (wL M (f (10 + q)) m (duL τ p m q - (if m % 12 = 0 then 0 else duL τ p (m - 1) q))) (f (22 + q)) m (txY τ p q (m / 12) (m % 12) + txL τ p m q)) (f (26 + q)) m (duL τ p m q)) (f (10 + q)) m = taL τ p m q := by
  rw [wL_a (bk_n hb (by omega) (by omega) (by omega)), wL_a (bk_n hb (by omega) (by omega) (by omega)), wL_i]; rfl
theorem tax_2 (hb : Blk tbBk (mK M) (mN M) (mR M) f) (hq : q < 3) : mL (wL (wL (wL M (f (10 + q)) m (duL τ p m q - (if m % 12 = 0 then 0 else duL τ p (m - 1) q))) (f (22 + q)) m (txY τ p q (m / 12) (m % 12) + txL τ p m q)) (f (26 + q)) m (duL τ p m q)) (f (22 + q)) m = txY τ p q (m / 12) (m % 12) + txL τ p m q := by
  rw [wL_a (bk_n hb (by omega) (by omega) (by omega)), wL_i]
theorem tax_3 (hb : Blk tbBk (mK M) (mN M) (mR M) f) (hq : q < 3) : mL (wL (wL (wL M (f (10 + q)) m (duL τ p m q - (if m % 12 = 0 then 0 else duL τ p (m - 1) q))) (f (22 + q)) m (txY τ p q (m / 12) (m % 12) + txL τ p m q)) (f (26 + q)) m (duL τ p m q)) (f (26 + q)) m = duL τ p m q := by rw [wL_i]
theorem tax_4 (hb : Blk tbBk (mK M) (mN M) (mR M) f) (hq : q < 3) : ∀ k, k ≠ m → mL (wL (wL (wL M (f (10 + q)) m (duL τ p m q - (if m % 12 = 0 then 0 else duL τ p (m - 1) q))) (f (22 + q)) m (txY τ p q (m / 12) (m % 12) + txL τ p m q)) (f (26 + q)) m (duL τ p m q)) (f (10 + q)) k = mL M (f (10 + q)) k ∧ mL (wL (wL (wL M (f (10 + q)) m (duL τ p m q - (if m % 12 = 0 then 0 else duL τ p (m - 1) q))) (f (22 + q)) m (txY τ p q (m / 12) (m % 12) + txL τ p m q)) (f (26 + q)) m (duL τ p m q)) (f (22 + q)) k = mL M (f (22 + q)) k ∧ mL (wL (wL (wL M (f (10 + q)) m (duL τ p m q - (if m % 12 = 0 then 0 else duL τ p (m - 1) q))) (f (22 + q)) m (txY τ p q (m / 12) (m % 12) + txL τ p m q)) (f (26 + q)) m (duL τ p m q)) (f (26 + q)) k = mL M (f (26 + q)) k := by
  intro k hk
  refine ⟨?_, ?_, ?_⟩
  · rw [wL_a (bk_n hb (by omega) (by omega) (by omega)), wL_a (bk_n hb (by omega) (by omega) (by omega)), wL_k hk]
  · rw [wL_a (bk_n hb (by omega) (by omega) (by omega)), wL_k hk, wL_a (bk_n hb (by omega) (by omega) (by omega))]
  · rw [wL_k hk, wL_a (bk_n hb (by omega) (by omega) (by omega)), wL_a (bk_n hb (by omega) (by omega) (by omega))]
end Tax
set_option maxHeartbeats 4000000 in
set_option maxRecDepth 100000 in
theorem c_X0_tax (l : Launch) (hfl : l.flags = flags0) (G : gW) (M : Mem) (f : Nat → Nat) (hb : Blk tbBk (mK M) (mN M) (mR M) f) (e : Nat → Nat) (he : Blk tbBr (mK M) (mN M) (mR M) e) (τ : Mu) (hw : WF τ) (p m q : Nat) (hp : p < 6) (hm : m < 24) (hq : q < 3) (hbr : BrF τ (48 * q + 24 * stN τ p m) (mI M) e) (hgr : mL M (f (2 + q)) m = grL τ p m q) (hco : mL M (f (6 + q)) m = coL τ p m q) (hpn : mL M (f 37) m = pnL τ p m) (hho : mI M (f 36) m = nI (homeN τ p m)) (h22 : m % 12 ≠ 0 → mL M (f (22 + q)) (m - 1) = txY τ p q (m / 12) (m % 12)) (h26 : m % 12 ≠ 0 → mL M (f (26 + q)) (m - 1) = duL τ p (m - 1) q) : CT l yX0_tax cX0_tax 13 none 2 0 0 63 G M [.ref (f 0), .int (nI m), .int (nI q), .ref (e 0)] (fun v M' => v = none ∧ frm (fun a => a = f (10 + q) ∨ a = f (22 + q) ∨ a = f (26 + q)) M M' ∧ mL M' (f (10 + q)) m = taL τ p m q ∧ mL M' (f (22 + q)) m = txY τ p q (m / 12) (m % 12) + txL τ p m q ∧ mL M' (f (26 + q)) m = duL τ p m q ∧ (∀ k, k ≠ m → mL M' (f (10 + q)) k = mL M (f (10 + q)) k ∧ mL M' (f (22 + q)) k = mL M (f (22 + q)) k ∧ mL M' (f (26 + q)) k = mL M (f (26 + q)) k) ∧ mI M' = mI M) := by
  refine CT.of hfl rfl (Nat.le_of_ble_eq_true rfl) ?_
  intro pp ee ss mm ar bw mt cd C hgX hr hini
  have hst := stN_le hw hp hm
  have hhl := homeN_le hw p m
  have hbd := bd_add (txY_bd hw hp hq (y := m / 12) (j := m % 12) (by omega) (by omega)) (txL_bd hw hp hq hm) (by decide)
  refine V.eLo (lo' := [(0, .ref (f 0)), (1, .int (nI m)), (2, .int (nI q)), (3, .ref (e 0))]) rfl ?_
  refine r_aload_n C 0 dX0_tax_0 rfl rfl ?_
  refine r_getR C (b := (f 1)) fl_X0_17 rfl (hb.k 0 4 rfl) (hb.r 0 1 1 rfl) dX0_tax_1 ?_
  refine r_iload_n C 2 dX0_tax_4 rfl rfl ?_
  refine r_aaloadN C (b := (f (2 + q))) 5 (by decide) (hb.k 1 28 rfl) (hb.n 1 3 rfl) (by omega) (by omega) (hb.ro 1 2 3 1 rfl q (by omega)) dX0_tax_5 ?_
  refine r_iload_n C 1 dX0_tax_6 rfl rfl ?_
  refine r_laloadN C (hb.ko 2 21 3 rfl q (by omega)) (hb.no 2 24 3 rfl q (by omega)) (by omega) (by omega) dX0_tax_7 ?_
  refine V.el (y := grL τ p m q) (hgr) ?_
  refine r_aload_n C 0 dX0_tax_8 rfl rfl ?_
  refine r_getR C (b := (f 5)) fl_X0_20 rfl (hb.k 0 4 rfl) (hb.r 0 2 5 rfl) dX0_tax_9 ?_
  refine r_iload_n C 2 dX0_tax_12 rfl rfl ?_
  refine r_aaloadN C (b := (f (6 + q))) 5 (by decide) (hb.k 5 28 rfl) (hb.n 5 3 rfl) (by omega) (by omega) (hb.ro 5 6 3 1 rfl q (by omega)) dX0_tax_13 ?_
  refine r_iload_n C 1 dX0_tax_14 rfl rfl ?_
  refine r_laloadN C (hb.ko 6 21 3 rfl q (by omega)) (hb.no 6 24 3 rfl q (by omega)) (by omega) (by omega) dX0_tax_15 ?_
  refine V.el (y := coL τ p m q) (hco) ?_
  refine r_lsub C dX0_tax_16 ?_
  refine r_lstore C (lo' := [(4, .long ((grL τ p m q) - (coL τ p m q))), (0, .ref (f 0)), (1, .int (nI m)), (2, .int (nI q)), (3, .ref (e 0))]) dX0_tax_17 (by decide) rfl ?_
  have jn40 : V pp l ee ({ frames := 2, cells := 0, slots := 0, locals := 63 } : Room) ss mm ar bw mt cd G (MQ bw (Ke G (fun v M' => v = none ∧ frm (fun a => a = f (10 + q) ∨ a = f (22 + q) ∨ a = f (26 + q)) M M' ∧ mL M' (f (10 + q)) m = taL τ p m q ∧ mL M' (f (22 + q)) m = txY τ p q (m / 12) (m % 12) + txL τ p m q ∧ mL M' (f (26 + q)) m = duL τ p m q ∧ (∀ k, k ≠ m → mL M' (f (10 + q)) k = mL M (f (10 + q)) k ∧ mL M' (f (22 + q)) k = mL M (f (22 + q)) k ∧ mL M' (f (26 + q)) k = mL M (f (26 + q)) k) ∧ mI M' = mI M)) ar ss 0 0 (gA G)) 13 M 0 0 40 [(0, .ref (f 0)), (1, .int (nI m)), (2, .int (nI q)), (3, .ref (e 0)), (4, .long (txL τ p m q))] [] := by
    skip
    refine r_aload_n C 0 dX0_tax_40 rfl rfl ?_
    refine r_getR C (b := (f 21)) fl_X0_32 rfl (hb.k 0 4 rfl) (hb.r 0 6 21 rfl) dX0_tax_41 ?_
    refine r_iload_n C 1 dX0_tax_44 rfl rfl ?_
    refine r_iload_n C 2 dX0_tax_45 rfl rfl ?_
    refine r_callS C hgX ml_X0_156 st_X0_earlier (c_X0_earlier l hfl G M (f 21) (f (22 + q)) m q (hb.k 21 28 rfl) (hb.n 21 3 rfl) (hb.ro 21 22 3 22 rfl q hq) (hb.ko 22 21 3 rfl q hq) (hb.no 22 24 3 rfl q hq) hq hm) rfl (Nat.le_of_ble_eq_true rfl) ⟨Nat.le_of_ble_eq_true rfl, Nat.le_of_ble_eq_true rfl⟩ ⟨Nat.le_of_ble_eq_true rfl, Nat.le_of_ble_eq_true rfl⟩ dX0_tax_46 rfl ?_
    rintro _ _ ⟨rfl, rfl⟩
    refine V.eSt (st' := [.long (erL (mL M) (f (22 + q)) m)]) rfl ?_
    refine V.el (y := txY τ p q (m / 12) (m % 12)) (er_txY h22) ?_
    refine r_lload C 4 dX0_tax_49 rfl ?_
    refine r_ladd C dX0_tax_51 ?_
    refine r_lstore C (lo' := [(6, .long ((txY τ p q (m / 12) (m % 12)) + (txL τ p m q))), (0, .ref (f 0)), (1, .int (nI m)), (2, .int (nI q)), (3, .ref (e 0)), (4, .long (txL τ p m q))]) dX0_tax_52 (by decide) rfl ?_
    refine r_iload_n C 2 dX0_tax_54 rfl rfl ?_
    refine r_bipush C (v := nI 12) dX0_tax_55 (by decide) ?_
    refine r_iremN C (by omega) (by omega) (by omega) dX0_tax_57 ?_
    refine r_iconst C (v := nI 1) dX0_tax_58 (by decide) ?_
    refine r_iaddN C dX0_tax_59 ?_
    refine r_istore C (lo' := [(8, .int (nI (m % 12 + 1))), (6, .long ((txY τ p q (m / 12) (m % 12)) + (txL τ p m q))), (0, .ref (f 0)), (1, .int (nI m)), (2, .int (nI q)), (3, .ref (e 0)), (4, .long (txL τ p m q))]) dX0_tax_60 (by decide) rfl ?_
    refine r_aload_n C 5 dX0_tax_62 rfl rfl ?_
    refine r_lconst C (v := lN 0) dX0_tax_63 (by decide) ?_
    refine r_lload C 1 dX0_tax_64 rfl ?_
    refine r_maxL C km_X0_134 (Nat.le_of_ble_eq_true rfl) (Nat.le_of_ble_eq_true rfl) (by first | exact Nat.zero_le _ | decide) (by first | exact Nat.zero_le _ | decide) dX0_tax_66 ?_
    refine V.el (y := pzL (txY τ p q (m / 12) (m % 12) + txL τ p m q)) (lmax_pz _) ?_
    refine r_ldc2 C (v := 12) kl_X0_168 dX0_tax_69 ?_
    refine V.el (y := lN 12) (by decide) ?_
    refine r_lmul C dX0_tax_72 ?_
    refine r_iload C 0 dX0_tax_73 rfl ?_
    refine r_i2lN C (by omega) dX0_tax_75 ?_
    refine r_callS C hgX ml_X0_170 st_X2_roundedDown (c_X2_roundedDown l hfl G M ((pzL (txY τ p q (m / 12) (m % 12) + txL τ p m q)) * (lN 12)) (m % 12 + 1) (by omega)) rfl (Nat.le_of_ble_eq_true rfl) ⟨Nat.le_of_ble_eq_true rfl, Nat.le_of_ble_eq_true rfl⟩ ⟨Nat.le_of_ble_eq_true rfl, Nat.le_of_ble_eq_true rfl⟩ dX0_tax_76 rfl ?_
    rintro _ _ ⟨rfl, rfl⟩
    refine V.eSt (st' := [.long (rdD ((pzL (txY τ p q (m / 12) (m % 12) + txL τ p m q)) * (lN 12)) (lN (m % 12 + 1))), .ref (e 0)]) rfl ?_
    refine V.el (y := pzL (txY τ p q (m / 12) (m % 12) + txL τ p m q) * lN 12 / lN (m % 12 + 1)) ((rdD_dwn (by omega) (by omega)).trans (dwn_pz hbd (by decide) (by omega) (by omega))) ?_
    refine r_iload_n C 3 dX0_tax_79 rfl rfl ?_
    refine r_callV C hgX (ci := 4) ml_X0_173 im_X1_taxOn se_X1_taxOn rfl rfl (he.k 0 5 rfl) (c_X1_taxOn l hfl G M e he τ hw (48 * q + 24 * stN τ p m) (by omega) hbr (pzL (txY τ p q (m / 12) (m % 12) + txL τ p m q) * lN 12 / lN (m % 12 + 1)) m (by omega)) rfl (Nat.le_of_ble_eq_true rfl) ⟨Nat.le_of_ble_eq_true rfl, Nat.le_of_ble_eq_true rfl⟩ ⟨Nat.le_of_ble_eq_true rfl, Nat.le_of_ble_eq_true rfl⟩ dX0_tax_80 rfl ?_
    rintro _ _ ⟨rfl, rfl⟩
    refine V.eSt (st' := [.long (yearL τ (48 * q + 24 * stN τ p m) m (pzL (txY τ p q (m / 12) (m % 12) + txL τ p m q) * lN 12 / lN (m % 12 + 1)))]) rfl ?_
    refine r_lstore C (lo' := [(9, .long (yearL τ (48 * q + 24 * stN τ p m) m (pzL (txY τ p q (m / 12) (m % 12) + txL τ p m q) * lN 12 / lN (m % 12 + 1)))), (8, .int (nI (m % 12 + 1))), (6, .long ((txY τ p q (m / 12) (m % 12)) + (txL τ p m q))), (0, .ref (f 0)), (1, .int (nI m)), (2, .int (nI q)), (3, .ref (e 0)), (4, .long (txL τ p m q))]) dX0_tax_83 (by decide) rfl ?_
    refine r_lload C 0 dX0_tax_85 rfl ?_
    refine r_iload C 1 dX0_tax_87 rfl ?_
    refine r_i2lN C (by omega) dX0_tax_89 ?_
    refine r_lmul C dX0_tax_90 ?_
    refine r_ldc2 C (v := 12) kl_X0_168 dX0_tax_91 ?_
    refine V.el (y := lN 12) (by decide) ?_
    refine r_ldiv C dX0_tax_94 (by decide) ?_
    refine V.el (y := duL τ p m q) (rfl) ?_
    refine r_lstore C (lo' := [(11, .long (duL τ p m q)), (9, .long (yearL τ (48 * q + 24 * stN τ p m) m (pzL (txY τ p q (m / 12) (m % 12) + txL τ p m q) * lN 12 / lN (m % 12 + 1)))), (8, .int (nI (m % 12 + 1))), (6, .long ((txY τ p q (m / 12) (m % 12)) + (txL τ p m q))), (0, .ref (f 0)), (1, .int (nI m)), (2, .int (nI q)), (3, .ref (e 0)), (4, .long (txL τ p m q))]) dX0_tax_95 (by decide) rfl ?_
    refine r_aload_n C 4 dX0_tax_97 rfl rfl ?_
    refine r_getR C (b := (f 9)) fl_X0_23 rfl (hb.k 0 4 rfl) (hb.r 0 3 9 rfl) dX0_tax_98 ?_
    refine r_iload_n C 6 dX0_tax_101 rfl rfl ?_
    refine r_aaloadN C (b := (f (10 + q))) 5 (by decide) (hb.k 9 28 rfl) (hb.n 9 3 rfl) (by omega) (by omega) (hb.ro 9 10 3 1 rfl q (by omega)) dX0_tax_102 ?_
    refine r_iload_n C 5 dX0_tax_103 rfl rfl ?_
    refine r_lload C 0 dX0_tax_104 rfl ?_
    refine r_aload_n C 4 dX0_tax_106 rfl rfl ?_
    refine r_getR C (b := (f 25)) fl_X0_35 rfl (hb.k 0 4 rfl) (hb.r 0 7 25 rfl) dX0_tax_107 ?_
    refine r_iload_n C 5 dX0_tax_110 rfl rfl ?_
    refine r_iload_n C 6 dX0_tax_111 rfl rfl ?_
    refine r_callS C hgX ml_X0_156 st_X0_earlier (c_X0_earlier l hfl G M (f 25) (f (26 + q)) m q (hb.k 25 28 rfl) (hb.n 25 3 rfl) (hb.ro 25 26 3 26 rfl q hq) (hb.ko 26 21 3 rfl q hq) (hb.no 26 24 3 rfl q hq) hq hm) rfl (Nat.le_of_ble_eq_true rfl) ⟨Nat.le_of_ble_eq_true rfl, Nat.le_of_ble_eq_true rfl⟩ ⟨Nat.le_of_ble_eq_true rfl, Nat.le_of_ble_eq_true rfl⟩ dX0_tax_112 rfl ?_
    rintro _ _ ⟨rfl, rfl⟩
    refine V.eSt (st' := [.long (erL (mL M) (f (26 + q)) m), .long (duL τ p m q), .int (nI m), .ref (f (10 + q))]) rfl ?_
    refine V.el (y := if m % 12 = 0 then 0 else duL τ p (m - 1) q) (er_du h26) ?_
    refine r_lsub C dX0_tax_115 ?_
    refine r_lastoreN C (hb.ko 10 21 3 rfl q (by omega)) (hb.no 10 24 3 rfl q (by omega)) (by omega) (by omega) dX0_tax_116 ?_
    refine r_aload_n C 4 dX0_tax_117 rfl rfl ?_
    refine r_getR C (b := (f 21)) fl_X0_32 rfl (hb.k 0 4 rfl) (hb.r 0 6 21 rfl) dX0_tax_118 ?_
    refine r_iload_n C 6 dX0_tax_121 rfl rfl ?_
    refine r_aaloadN C (b := (f (22 + q))) 5 (by decide) (hb.k 21 28 rfl) (hb.n 21 3 rfl) (by omega) (by omega) (hb.ro 21 22 3 1 rfl q (by omega)) dX0_tax_122 ?_
    refine r_iload_n C 5 dX0_tax_123 rfl rfl ?_
    refine r_lload C 3 dX0_tax_124 rfl ?_
    refine r_lastoreN C (hb.ko 22 21 3 rfl q (by omega)) (hb.no 22 24 3 rfl q (by omega)) (by omega) (by omega) dX0_tax_126 ?_
    refine r_aload_n C 4 dX0_tax_127 rfl rfl ?_
    refine r_getR C (b := (f 25)) fl_X0_35 rfl (hb.k 0 4 rfl) (hb.r 0 7 25 rfl) dX0_tax_128 ?_
    refine r_iload_n C 6 dX0_tax_131 rfl rfl ?_
    refine r_aaloadN C (b := (f (26 + q))) 5 (by decide) (hb.k 25 28 rfl) (hb.n 25 3 rfl) (by omega) (by omega) (hb.ro 25 26 3 1 rfl q (by omega)) dX0_tax_132 ?_
    refine r_iload_n C 5 dX0_tax_133 rfl rfl ?_
    refine r_lload C 0 dX0_tax_134 rfl ?_
    refine r_lastoreN C (hb.ko 26 21 3 rfl q (by omega)) (hb.no 26 24 3 rfl q (by omega)) (by omega) (by omega) dX0_tax_136 ?_
    exact r_vret C hr (⟨rfl, (frm.rf _ _).wl _ _ (.inl rfl) |>.wl _ _ (.inr (.inl rfl)) |>.wl _ _ (.inr (.inr rfl)), tax_1 hb hq, tax_2 hb hq, tax_3 hb hq, tax_4 hb hq, rfl⟩) (by first | exact Nat.zero_le _ | decide) (by first | exact Nat.zero_le _ | decide) dX0_tax_137
  refine r_iload_n C 3 dX0_tax_19 rfl rfl ?_
  refine r_aload_n C 1 dX0_tax_20 rfl rfl ?_
  refine r_getR C (b := (f 36)) fl_X0_41 rfl (hb.k 0 4 rfl) (hb.r 0 9 36 rfl) dX0_tax_21 ?_
  refine r_iload_n C 2 dX0_tax_24 rfl rfl ?_
  refine r_ialoadN C (hb.k 36 20 rfl) (hb.n 36 24 rfl) (by omega) (by omega) dX0_tax_25 ?_
  refine V.ei (y := nI (homeN τ p m)) (hho) ?_
  refine r_icmp_neN C (t := 40) (by omega) (by omega) dX0_tax_26 (by decide) (fun c26 => ?_) (fun c26 => ?_)
  · skip
    refine V.sub [1, 2, 3, 4, 0] (lo' := [(0, .ref (f 0)), (1, .int (nI m)), (2, .int (nI q)), (3, .ref (e 0)), (4, .long ((grL τ p m q) - (coL τ p m q)))]) rfl ?_
    have jl4 : ((grL τ p m q) - (coL τ p m q)) = (txL τ p m q) := by unfold txL; rw [if_neg c26, show lN 0 = (0 : Int64) from rfl, Int64.sub_zero]
    refine V.eLo (lo' := [(0, .ref (f 0)), (1, .int (nI m)), (2, .int (nI q)), (3, .ref (e 0)), (4, .long (txL τ p m q))]) (congrArg (fun z_ => ([(0, .ref (f 0)), (1, .int (nI m)), (2, .int (nI q)), (3, .ref (e 0)), (4, .long z_)] : List (Nat × Value))) jl4) ?_
    exact jn40
  · skip
    refine r_lload C 0 dX0_tax_29 rfl ?_
    refine r_aload_n C 1 dX0_tax_31 rfl rfl ?_
    refine r_getR C (b := (f 37)) fl_X0_45 rfl (hb.k 0 4 rfl) (hb.r 0 10 37 rfl) dX0_tax_32 ?_
    refine r_iload_n C 2 dX0_tax_35 rfl rfl ?_
    refine r_laloadN C (hb.k 37 21 rfl) (hb.n 37 24 rfl) (by omega) (by omega) dX0_tax_36 ?_
    refine V.el (y := pnL τ p m) (hpn) ?_
    refine r_lsub C dX0_tax_37 ?_
    refine r_lstore C (lo' := [(4, .long (((grL τ p m q) - (coL τ p m q)) - (pnL τ p m))), (0, .ref (f 0)), (1, .int (nI m)), (2, .int (nI q)), (3, .ref (e 0))]) dX0_tax_38 (by decide) rfl ?_
    refine V.sub [1, 2, 3, 4, 0] (lo' := [(0, .ref (f 0)), (1, .int (nI m)), (2, .int (nI q)), (3, .ref (e 0)), (4, .long (((grL τ p m q) - (coL τ p m q)) - (pnL τ p m)))]) rfl ?_
    have jl4 : (((grL τ p m q) - (coL τ p m q)) - (pnL τ p m)) = (txL τ p m q) := by unfold txL; rw [if_pos c26]
    refine V.eLo (lo' := [(0, .ref (f 0)), (1, .int (nI m)), (2, .int (nI q)), (3, .ref (e 0)), (4, .long (txL τ p m q))]) (congrArg (fun z_ => ([(0, .ref (f 0)), (1, .int (nI m)), (2, .int (nI q)), (3, .ref (e 0)), (4, .long z_)] : List (Nat × Value))) jl4) ?_
    exact jn40

