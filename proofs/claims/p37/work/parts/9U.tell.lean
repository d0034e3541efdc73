/-! THE CLASS: tellLeave, tellGarnishment -/
set_option maxHeartbeats 1000000 in
set_option maxRecDepth 100000 in
theorem c_X8_tellLeave (l : Launch) (hfl : l.flags = flags0) (G : gW) (M : Mem) (h : Nat → Nat) (hb : Blk tbPe (mK M) (mN M) (mR M) h) (ng : Nat) (e rk : Nat → Nat) (hL : LI G M 8 (h 2) ng e) (hng : ng ≤ 40) (hrk : ∀ i, i < ng → mI M (e i) 1 = nI (rk i) ∧ rk i < 2 ^ 30) (b r : Nat) (hkb : mK M b = 9) (hrb : mI M b 1 = nI r) (hr : r < 2 ^ 30) : CT l yX8_tellLeave cX8_tellLeave 3 none 6 1 300 214 G M [.ref (h 0), .ref b] (fun v M' => v = none ∧ ∃ k, k ≤ ng ∧ (∀ i, k ≤ i → i < ng → r < rk i) ∧ (k = 0 ∨ rk (k - 1) ≤ r) ∧ ∃ d, mR M (h 2) 1 = some d ∧ LI G M' 8 (h 2) (ng + 1) (inE e k b) ∧ LF M M' (h 2) d) := by
  refine CT.of hfl rfl (Nat.le_of_ble_eq_true rfl) ?_
  intro pp ee ss mm ar bw mt cd C hgX hr hini
  have hrk2 : ∀ i, i < ng → rk i < 2 ^ 30 := fun i hi => (hrk i hi).2
  refine V.eLo (lo' := [(0, .ref (h 0)), (1, .ref b)]) rfl ?_
  refine r_aload_n C 0 dX8_tellLeave_0 rfl rfl ?_
  refine r_getR C (b := (h 2)) fl_X8_18 rfl (hb.k 0 11 rfl) (hb.r 0 2 2 rfl) dX8_tellLeave_1 ?_
  refine r_callV C hgX (ci := 2) ml_X8_56 im_Jx4a65c_size_8abf5 se_Jx4a65c_size_8abf5 rfl rfl (hb.k 2 3 rfl) (c_Jx4a65c_size_8abf5 l hfl G M (h 2) ng (hL).1 (hL).2.1) rfl (Nat.le_of_ble_eq_true rfl) ⟨Nat.le_of_ble_eq_true rfl, Nat.le_of_ble_eq_true rfl⟩ ⟨Nat.le_of_ble_eq_true rfl, Nat.le_of_ble_eq_true rfl⟩ dX8_tellLeave_4 rfl ?_
  rintro _ _ ⟨rfl, rfl⟩
  refine V.eSt (st' := [.int (nI ng)]) rfl ?_
  refine r_istore_n C (lo' := [(2, .int (nI ng)), (0, .ref (h 0)), (1, .ref b)]) dX8_tellLeave_7 rfl (by decide) rfl ?_
  have lp8 : ∀ (k8 : Nat) (k : Nat) (hk : k ≤ ng) (hge : ∀ i, k ≤ i → i < ng → r < rk i), k < k8 → V pp l ee ({ frames := 6, cells := 1, slots := 300, locals := 214 } : Room) ss mm ar bw mt cd G (MQ bw (Ke G (fun v M' => v = none ∧ ∃ k, k ≤ ng ∧ (∀ i, k ≤ i → i < ng → r < rk i) ∧ (k = 0 ∨ rk (k - 1) ≤ r) ∧ ∃ d, mR M (h 2) 1 = some d ∧ LI G M' 8 (h 2) (ng + 1) (inE e k b) ∧ LF M M' (h 2) d)) ar ss 1 300 (gA G)) 3 M 0 0 8 [(0, .ref (h 0)), (1, .ref b), (2, .int (nI k))] [] := by
    intro k8
    induction k8 with
    | zero => intro k hk hge hz8; exact absurd hz8 (Nat.not_lt_zero _)
    | succ k8 ih8 =>
      intro k hk hge hz8
      refine r_iload_n C 2 dX8_tellLeave_8 rfl rfl ?_
      refine r_if_leN C (t := 41) (by omega) dX8_tellLeave_9 (by decide) (fun c9 => ?_) (fun c9 => ?_)
      · skip
        refine r_aload_n C 0 dX8_tellLeave_41 rfl rfl ?_
        refine r_getR C (b := (h 2)) fl_X8_18 rfl (hb.k 0 11 rfl) (hb.r 0 2 2 rfl) dX8_tellLeave_42 ?_
        refine r_iload_n C 2 dX8_tellLeave_45 rfl rfl ?_
        refine r_aload_n C 1 dX8_tellLeave_46 rfl rfl ?_
        refine r_callV C hgX (ci := 2) ml_X8_75 im_Jx4a65c_add_7a177 se_Jx4a65c_add_7a177 rfl rfl (hb.k 2 3 rfl) (c_addk l hfl G M 8 (h 2) ng e _ rfl (by decide) hL (by omega) k b (by omega) hkb) rfl (Nat.le_of_ble_eq_true rfl) ⟨Nat.le_of_ble_eq_true rfl, Nat.le_of_ble_eq_true rfl⟩ ⟨Nat.le_of_ble_eq_true rfl, Nat.le_of_ble_eq_true rfl⟩ dX8_tellLeave_47 rfl ?_
        rintro _ My1 ⟨rfl, d1, hd1, hLI1, hLF1⟩
        exact r_vret C hr (⟨rfl, k, hk, hge, .inl (by omega), d1, hd1, hLI1, hLF1⟩) (by first | exact Nat.zero_le _ | decide) (by first | exact Nat.zero_le _ | decide) dX8_tellLeave_50
      · skip
        refine r_aload_n C 0 dX8_tellLeave_12 rfl rfl ?_
        refine r_getR C (b := (h 2)) fl_X8_18 rfl (hb.k 0 11 rfl) (hb.r 0 2 2 rfl) dX8_tellLeave_13 ?_
        refine r_iload_n C 2 dX8_tellLeave_16 rfl rfl ?_
        refine r_iconst C (v := nI 1) dX8_tellLeave_17 (by decide) ?_
        refine r_isubN C (by omega) dX8_tellLeave_18 ?_
        obtain ⟨d_, hd_, hkd_, hsn_, hn_, hri_⟩ := (hL).get (i := k - 1) (by omega)
        refine r_callV C hgX (ci := 2) ml_X8_60 im_Jx4a65c_get_915e3 se_Jx4a65c_get_915e3 rfl rfl (hb.k 2 3 rfl) (c_Jx4a65c_get_915e3 l hfl G M (h 2) d_ _ (k - 1) (e (k - 1)) ng (hL).1 hd_ (hL).2.1 hkd_ rfl hn_ hsn_ (by omega) hri_) rfl (Nat.le_of_ble_eq_true rfl) ⟨Nat.le_of_ble_eq_true rfl, Nat.le_of_ble_eq_true rfl⟩ ⟨Nat.le_of_ble_eq_true rfl, Nat.le_of_ble_eq_true rfl⟩ dX8_tellLeave_19 rfl ?_
        rintro _ _ ⟨rfl, rfl⟩
        refine V.eSt (st' := [.ref (e (k - 1))]) rfl ?_
        refine r_cast C (ci := 8) rfl cl_X8_70 ((hL.2.2.1 (k - 1) (by omega))) dX8_tellLeave_22 ?_
        refine r_getI C fl_X8_72 rfl (hL.2.2.1 (k - 1) (by omega)) dX8_tellLeave_25 ?_
        refine V.ei (y := nI (rk (k - 1))) ((hrk (k - 1) (by omega)).1) ?_
        refine r_aload_n C 1 dX8_tellLeave_28 rfl rfl ?_
        refine r_getI C fl_X8_72 rfl hkb dX8_tellLeave_29 ?_
        refine V.ei (y := nI r) (hrb) ?_
        have hb2 := hrk2 (k - 1) (by omega)
        refine r_icmp_leN C (t := 41) (by omega) (by omega) dX8_tellLeave_32 (by decide) (fun c32 => ?_) (fun c32 => ?_)
        · skip
          refine r_aload_n C 0 dX8_tellLeave_41 rfl rfl ?_
          refine r_getR C (b := (h 2)) fl_X8_18 rfl (hb.k 0 11 rfl) (hb.r 0 2 2 rfl) dX8_tellLeave_42 ?_
          refine r_iload_n C 2 dX8_tellLeave_45 rfl rfl ?_
          refine r_aload_n C 1 dX8_tellLeave_46 rfl rfl ?_
          refine r_callV C hgX (ci := 2) ml_X8_75 im_Jx4a65c_add_7a177 se_Jx4a65c_add_7a177 rfl rfl (hb.k 2 3 rfl) (c_addk l hfl G M 8 (h 2) ng e _ rfl (by decide) hL (by omega) k b (by omega) hkb) rfl (Nat.le_of_ble_eq_true rfl) ⟨Nat.le_of_ble_eq_true rfl, Nat.le_of_ble_eq_true rfl⟩ ⟨Nat.le_of_ble_eq_true rfl, Nat.le_of_ble_eq_true rfl⟩ dX8_tellLeave_47 rfl ?_
          rintro _ My2 ⟨rfl, d2, hd2, hLI2, hLF2⟩
          exact r_vret C hr (⟨rfl, k, hk, hge, .inr (by omega), d2, hd2, hLI2, hLF2⟩) (by first | exact Nat.zero_le _ | decide) (by first | exact Nat.zero_le _ | decide) dX8_tellLeave_50
        · skip
          refine r_iinc C (v := nI (k - 1)) (lo' := [(2, .int (nI (k - 1))), (0, .ref (h 0)), (1, .ref b)]) 2 dX8_tellLeave_35 rfl (nI_m1 (by omega)) (by decide) rfl ?_
          refine r_goto C (t := 8) dX8_tellLeave_38 (by decide) ?_
          refine V.sub [1, 2, 0] (lo' := [(0, .ref (h 0)), (1, .ref b), (2, .int (nI (k - 1)))]) rfl ?_
          exact ih8 (k - 1) (by omega) (fun i h1 h2 => by by_cases z : k ≤ i; exact hge i z h2; (obtain rfl : i = k - 1 := by omega); omega) (by omega)
  refine V.sub [1, 2, 0] (lo' := [(0, .ref (h 0)), (1, .ref b), (2, .int (nI ng))]) rfl ?_
  exact lp8 _ ng (Nat.le_refl _) (fun i h1 h2 => absurd h2 (by omega)) (Nat.lt_succ_self _)
set_option maxHeartbeats 1000000 in
set_option maxRecDepth 100000 in
theorem c_X8_tellGarnishment (l : Launch) (hfl : l.flags = flags0) (G : gW) (M : Mem) (h : Nat → Nat) (hb : Blk tbPe (mK M) (mN M) (mR M) h) (ng : Nat) (e rk : Nat → Nat) (hL : LI G M 7 (h 3) ng e) (hng : ng ≤ 40) (hrk : ∀ i, i < ng → mI M (e i) 2 = nI (rk i) ∧ rk i < 2 ^ 30) (b r : Nat) (hkb : mK M b = 8) (hrb : mI M b 2 = nI r) (hr : r < 2 ^ 30) : CT l yX8_tellGarnishment cX8_tellGarnishment 3 none 6 1 300 214 G M [.ref (h 0), .ref b] (fun v M' => v = none ∧ ∃ k, k ≤ ng ∧ (∀ i, k ≤ i → i < ng → r < rk i) ∧ (k = 0 ∨ rk (k - 1) ≤ r) ∧ ∃ d, mR M (h 3) 1 = some d ∧ LI G M' 7 (h 3) (ng + 1) (inE e k b) ∧ LF M M' (h 3) d) := by
  refine CT.of hfl rfl (Nat.le_of_ble_eq_true rfl) ?_
  intro pp ee ss mm ar bw mt cd C hgX hr hini
  have hrk2 : ∀ i, i < ng → rk i < 2 ^ 30 := fun i hi => (hrk i hi).2
  refine V.eLo (lo' := [(0, .ref (h 0)), (1, .ref b)]) rfl ?_
  refine r_aload_n C 0 dX8_tellGarnishment_0 rfl rfl ?_
  refine r_getR C (b := (h 3)) fl_X8_21 rfl (hb.k 0 11 rfl) (hb.r 0 3 3 rfl) dX8_tellGarnishment_1 ?_
  refine r_callV C hgX (ci := 2) ml_X8_56 im_Jx4a65c_size_8abf5 se_Jx4a65c_size_8abf5 rfl rfl (hb.k 3 3 rfl) (c_Jx4a65c_size_8abf5 l hfl G M (h 3) ng (hL).1 (hL).2.1) rfl (Nat.le_of_ble_eq_true rfl) ⟨Nat.le_of_ble_eq_true rfl, Nat.le_of_ble_eq_true rfl⟩ ⟨Nat.le_of_ble_eq_true rfl, Nat.le_of_ble_eq_true rfl⟩ dX8_tellGarnishment_4 rfl ?_
  rintro _ _ ⟨rfl, rfl⟩
  refine V.eSt (st' := [.int (nI ng)]) rfl ?_
  refine r_istore_n C (lo' := [(2, .int (nI ng)), (0, .ref (h 0)), (1, .ref b)]) dX8_tellGarnishment_7 rfl (by decide) rfl ?_
  have lp8 : ∀ (k8 : Nat) (k : Nat) (hk : k ≤ ng) (hge : ∀ i, k ≤ i → i < ng → r < rk i), k < k8 → V pp l ee ({ frames := 6, cells := 1, slots := 300, locals := 214 } : Room) ss mm ar bw mt cd G (MQ bw (Ke G (fun v M' => v = none ∧ ∃ k, k ≤ ng ∧ (∀ i, k ≤ i → i < ng → r < rk i) ∧ (k = 0 ∨ rk (k - 1) ≤ r) ∧ ∃ d, mR M (h 3) 1 = some d ∧ LI G M' 7 (h 3) (ng + 1) (inE e k b) ∧ LF M M' (h 3) d)) ar ss 1 300 (gA G)) 3 M 0 0 8 [(0, .ref (h 0)), (1, .ref b), (2, .int (nI k))] [] := by
    intro k8
    induction k8 with
    | zero => intro k hk hge hz8; exact absurd hz8 (Nat.not_lt_zero _)
    | succ k8 ih8 =>
      intro k hk hge hz8
      refine r_iload_n C 2 dX8_tellGarnishment_8 rfl rfl ?_
      refine r_if_leN C (t := 41) (by omega) dX8_tellGarnishment_9 (by decide) (fun c9 => ?_) (fun c9 => ?_)
      · skip
        refine r_aload_n C 0 dX8_tellGarnishment_41 rfl rfl ?_
        refine r_getR C (b := (h 3)) fl_X8_21 rfl (hb.k 0 11 rfl) (hb.r 0 3 3 rfl) dX8_tellGarnishment_42 ?_
        refine r_iload_n C 2 dX8_tellGarnishment_45 rfl rfl ?_
        refine r_aload_n C 1 dX8_tellGarnishment_46 rfl rfl ?_
        refine r_callV C hgX (ci := 2) ml_X8_75 im_Jx4a65c_add_7a177 se_Jx4a65c_add_7a177 rfl rfl (hb.k 3 3 rfl) (c_addk l hfl G M 7 (h 3) ng e _ rfl (by decide) hL (by omega) k b (by omega) hkb) rfl (Nat.le_of_ble_eq_true rfl) ⟨Nat.le_of_ble_eq_true rfl, Nat.le_of_ble_eq_true rfl⟩ ⟨Nat.le_of_ble_eq_true rfl, Nat.le_of_ble_eq_true rfl⟩ dX8_tellGarnishment_47 rfl ?_
        rintro _ My1 ⟨rfl, d1, hd1, hLI1, hLF1⟩
        exact r_vret C hr (⟨rfl, k, hk, hge, .inl (by omega), d1, hd1, hLI1, hLF1⟩) (by first | exact Nat.zero_le _ | decide) (by first | exact Nat.zero_le _ | decide) dX8_tellGarnishment_50
      · skip
        refine r_aload_n C 0 dX8_tellGarnishment_12 rfl rfl ?_
        refine r_getR C (b := (h 3)) fl_X8_21 rfl (hb.k 0 11 rfl) (hb.r 0 3 3 rfl) dX8_tellGarnishment_13 ?_
        refine r_iload_n C 2 dX8_tellGarnishment_16 rfl rfl ?_
        refine r_iconst C (v := nI 1) dX8_tellGarnishment_17 (by decide) ?_
        refine r_isubN C (by omega) dX8_tellGarnishment_18 ?_
        obtain ⟨d_, hd_, hkd_, hsn_, hn_, hri_⟩ := (hL).get (i := k - 1) (by omega)
        refine r_callV C hgX (ci := 2) ml_X8_60 im_Jx4a65c_get_915e3 se_Jx4a65c_get_915e3 rfl rfl (hb.k 3 3 rfl) (c_Jx4a65c_get_915e3 l hfl G M (h 3) d_ _ (k - 1) (e (k - 1)) ng (hL).1 hd_ (hL).2.1 hkd_ rfl hn_ hsn_ (by omega) hri_) rfl (Nat.le_of_ble_eq_true rfl) ⟨Nat.le_of_ble_eq_true rfl, Nat.le_of_ble_eq_true rfl⟩ ⟨Nat.le_of_ble_eq_true rfl, Nat.le_of_ble_eq_true rfl⟩ dX8_tellGarnishment_19 rfl ?_
        rintro _ _ ⟨rfl, rfl⟩
        refine V.eSt (st' := [.ref (e (k - 1))]) rfl ?_
        refine r_cast C (ci := 7) rfl cl_X8_79 ((hL.2.2.1 (k - 1) (by omega))) dX8_tellGarnishment_22 ?_
        refine r_getI C fl_X8_81 rfl (hL.2.2.1 (k - 1) (by omega)) dX8_tellGarnishment_25 ?_
        refine V.ei (y := nI (rk (k - 1))) ((hrk (k - 1) (by omega)).1) ?_
        refine r_aload_n C 1 dX8_tellGarnishment_28 rfl rfl ?_
        refine r_getI C fl_X8_81 rfl hkb dX8_tellGarnishment_29 ?_
        refine V.ei (y := nI r) (hrb) ?_
        have hb2 := hrk2 (k - 1) (by omega)
        refine r_icmp_leN C (t := 41) (by omega) (by omega) dX8_tellGarnishment_32 (by decide) (fun c32 => ?_) (fun c32 => ?_)
        · skip
          refine r_aload_n C 0 dX8_tellGarnishment_41 rfl rfl ?_
          refine r_getR C (b := (h 3)) fl_X8_21 rfl (hb.k 0 11 rfl) (hb.r 0 3 3 rfl) dX8_tellGarnishment_42 ?_
          refine r_iload_n C 2 dX8_tellGarnishment_45 rfl rfl ?_
          refine r_aload_n C 1 dX8_tellGarnishment_46 rfl rfl ?_
          refine r_callV C hgX (ci := 2) ml_X8_75 im_Jx4a65c_add_7a177 se_Jx4a65c_add_7a177 rfl rfl (hb.k 3 3 rfl) (c_addk l hfl G M 7 (h 3) ng e _ rfl (by decide) hL (by omega) k b (by omega) hkb) rfl (Nat.le_of_ble_eq_true rfl) ⟨Nat.le_of_ble_eq_true rfl, Nat.le_of_ble_eq_true rfl⟩ ⟨Nat.le_of_ble_eq_true rfl, Nat.le_of_ble_eq_true rfl⟩ dX8_tellGarnishment_47 rfl ?_
          rintro _ My2 ⟨rfl, d2, hd2, hLI2, hLF2⟩
          exact r_vret C hr (⟨rfl, k, hk, hge, .inr (by omega), d2, hd2, hLI2, hLF2⟩) (by first | exact Nat.zero_le _ | decide) (by first | exact Nat.zero_le _ | decide) dX8_tellGarnishment_50
        · skip
          refine r_iinc C (v := nI (k - 1)) (lo' := [(2, .int (nI (k - 1))), (0, .ref (h 0)), (1, .ref b)]) 2 dX8_tellGarnishment_35 rfl (nI_m1 (by omega)) (by decide) rfl ?_
          refine r_goto C (t := 8) dX8_tellGarnishment_38 (by decide) ?_
          refine V.sub [1, 2, 0] (lo' := [(0, .ref (h 0)), (1, .ref b), (2, .int (nI (k - 1)))]) rfl ?_
          exact ih8 (k - 1) (by omega) (fun i h1 h2 => by by_cases z : k ≤ i; exact hge i z h2; (obtain rfl : i = k - 1 := by omega); omega) (by omega)
  refine V.sub [1, 2, 0] (lo' := [(0, .ref (h 0)), (1, .ref b), (2, .int (nI ng))]) rfl ?_
  exact lp8 _ ng (Nat.le_refl _) (fun i h1 h2 => absurd h2 (by omega)) (Nat.lt_succ_self _)

