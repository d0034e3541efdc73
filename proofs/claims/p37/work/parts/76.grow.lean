/-! ARRAYLIST: add -/
/-- a has a new array q of length n behind it -/
def GrP (M M' : Mem) (a q n : Nat) : Prop := mK M q = 0 ∧ mK M' q = 26 ∧ mN M' q = n ∧ mR M' a 1 = some q ∧ (∀ k, k ≠ 1 → mR M' a k = mR M a k) ∧ ∀ b, mK M b ≠ 0 → mK M' b = mK M b ∧ mN M' b = mN M b ∧ mI M' b = mI M b ∧ mL M' b = mL M b ∧ (b ≠ a → mR M' b = mR M b)
theorem GrP.of {M M1 : Mem} {a q n : Nat} (h : NewA M M1 q n) (ha : mK M a ≠ 0) : GrP M (wR M1 a 1 (some q)) a q n := by
  obtain ⟨h1, h2, h3, h4⟩ := h
  have haq : a ≠ q := fun e => ha (by rw [e]; exact h1)
  refine ⟨h1, h2, h3, up2_same _ _ _ _, fun k hk => (up2_k _ _ hk).trans (congrFun (h4 a ha).2.2.2.2 k), fun b hb => ?_⟩
  obtain ⟨e1, e2, e3, e4, e5⟩ := h4 b hb
  exact ⟨e1, e2, e3, e4, fun z => (up2_row _ _ z).trans e5⟩
/-- b was put at place s of the list a, its array now d'; the array that was there was d -/
def AdP (M M' : Mem) (a d s b : Nat) : Prop := mI M' a 2 = nI (s + 1) ∧ (∃ d', mR M' a 1 = some d' ∧ mK M' d' = 26 ∧ s + 1 ≤ mN M' d' ∧ 10 ≤ mN M' d' ∧ mN M' d' ≤ 300 ∧ (∀ i, i < s → mR M' d' i = mR M d i) ∧ mR M' d' s = some b ∧ (mK M d' = 0 ∨ d' = d)) ∧
  (∀ k, k ≠ 2 → mI M' a k = mI M a k) ∧ (∀ k, k ≠ 1 → mR M' a k = mR M a k) ∧ ∀ x, mK M x ≠ 0 → mK M' x = mK M x ∧ mN M' x = mN M x ∧ mL M' x = mL M x ∧ (x ≠ a → mI M' x = mI M x) ∧ (x ≠ a → x ≠ d → mR M' x = mR M x)
theorem AdP.room {M : Mem} {a d s n b : Nat} (hk : mK M a = 3) (hd : mR M a 1 = some d) (hkd : mK M d = 26) (hn : mN M d = n) (hs : s < n) (h10 : 10 ≤ n) (hn2 : n ≤ 300) : AdP M (wI (wR M d s (some b)) a 2 (nI (s + 1))) a d s b := by
  have had : a ≠ d := fun e => by rw [e, hkd] at hk; cases hk
  refine ⟨up2_same _ _ _ _, ⟨d, (up2_a _ _ had).trans hd, hkd, by show s + 1 ≤ mN M d; omega, by show 10 ≤ mN M d; omega, by show mN M d ≤ 300; omega, fun i hi => up2_k _ _ (by omega), up2_same _ _ _ _, .inr rfl⟩, fun k hk => up2_k _ _ hk, fun k hk => up2_a _ _ had, fun x hx => ⟨rfl, rfl, rfl, fun z => up2_row _ _ z, fun z1 z2 => up2_row _ _ z2⟩⟩
theorem AdP.grown {M M1 : Mem} {a d q s n b : Nat} (hk : mK M a = 3) (h : GrP M M1 a q n) (hs : s < n) (h10 : 10 ≤ n) (hn2 : n ≤ 300) (hc : ∀ i, i < s → mR M1 q i = mR M d i) : AdP M (wI (wR M1 q s (some b)) a 2 (nI (s + 1))) a d s b := by
  obtain ⟨h1, h2, h3, h4, h5, h6⟩ := h
  have haq : a ≠ q := fun e => by rw [e, h1] at hk; cases hk
  have ha := h6 a (by rw [hk]; decide)
  refine ⟨up2_same _ _ _ _, ⟨q, (up2_a _ _ haq).trans h4, h2, by show s + 1 ≤ mN M1 q; omega, by show 10 ≤ mN M1 q; omega, by show mN M1 q ≤ 300; omega, fun i hi => (up2_k _ _ (by omega)).trans (hc i hi), up2_same _ _ _ _, .inl h1⟩, fun k hk => (up2_k _ _ hk).trans (congrFun ha.2.2.1 k), fun k hk => (up2_a _ _ haq).trans (h5 k hk), fun x hx => ?_⟩
  obtain ⟨e1, e2, e3, e4, e5⟩ := h6 x hx
  have hxq : x ≠ q := fun e => hx (by rw [e]; exact h1)
  exact ⟨e1, e2, e4, fun z => (up2_row _ _ z).trans e3, fun z1 z2 => (up2_row _ _ hxq).trans (e5 z1)⟩
/-- what stands at a list's places -/
def LI (G : gW) (M : Mem) (ci a s : Nat) (e : Nat → Nat) : Prop := mK M a = 3 ∧ mI M a 2 = nI s ∧ (∀ i, i < s → mK M (e i) = ci + 1) ∧ ∃ d, mR M a 1 = some d ∧ ((s = 0 ∧ d = gS G 0) ∨ (mK M d = 26 ∧ s ≤ mN M d ∧ 10 ≤ mN M d ∧ mN M d ≤ 300 ∧ ∀ i, i < s → mR M d i = some (e i)))
set_option maxHeartbeats 4000000 in
set_option maxRecDepth 100000 in
theorem c_grow0 (l : Launch) (hfl : l.flags = flags0) (G : gW) (M : Mem) (a mn : Nat) (hk : mK M a = 3) (hd : mR M a 1 = some (gS G 0)) (hmn : mn ≤ 10) : CT l yJx4a65c_grow_92f84 cJx4a65c_grow_92f84 4 (some (.array (.object "java/lang/Object"))) 3 1 300 120 G M [.ref a, .int (nI mn)] (fun v M' => ∃ q, v = some (.ref q) ∧ GrP M M' a q (max 10 mn)) := by
  refine CT.of hfl rfl (Nat.le_of_ble_eq_true rfl) ?_
  intro pp ee ss mm ar bw mt cd C hgX hr hini
  refine V.eLo (lo' := [(0, .ref a), (1, .int (nI mn))]) rfl ?_
  refine r_aload_n C 0 dJx4a65c_grow_92f84_0 rfl rfl ?_
  refine r_getR C (b := (gS G 0)) fl_Jx4a65c_9 rfl hk hd dJx4a65c_grow_92f84_1 ?_
  refine r_alen0 C hgX dJx4a65c_grow_92f84_4 ?_
  refine r_istore_n C (lo' := [(2, .int (nI 0)), (0, .ref a), (1, .int (nI mn))]) dJx4a65c_grow_92f84_5 rfl (by decide) rfl ?_
  refine r_iload_n C 0 dJx4a65c_grow_92f84_6 rfl rfl ?_
  refine r_if_gtN C (t := 20) (by omega) dJx4a65c_grow_92f84_7 (by decide) (fun c7 => ?_) (fun c7 => ?_)
  · exact absurd c7 (by omega)
  · skip
    refine r_aload_n C 1 dJx4a65c_grow_92f84_10 rfl rfl ?_
    refine r_getR C (b := (gS G 0)) fl_Jx4a65c_9 rfl hk hd dJx4a65c_grow_92f84_11 ?_
    refine r_gets0 C hgX gl_39 dJx4a65c_grow_92f84_14 ?_
    refine r_acmp_eq C (t := 45) dJx4a65c_grow_92f84_17 (by decide) (fun c17 => ?_) (fun c17 => ?_)
    · skip
      refine r_aload_n C 1 dJx4a65c_grow_92f84_45 rfl rfl ?_
      refine r_bipush C (v := nI 10) dJx4a65c_grow_92f84_46 (by decide) ?_
      refine r_iload_n C 2 dJx4a65c_grow_92f84_48 rfl rfl ?_
      refine r_maxIN C km_Jx4a65c_79 (by omega) (by omega) (Nat.le_of_ble_eq_true rfl) (Nat.le_of_ble_eq_true rfl) (by first | exact Nat.zero_le _ | decide) (by first | exact Nat.zero_le _ | decide) dJx4a65c_grow_92f84_49 ?_
      refine V.mark C (fun z hz1 hz2 => ?_)
      have haz : a ≠ z := fun e => by rw [e, hz2 z (Nat.le_refl _)] at hk; cases hk
      refine r_anew C hgX (q := z) (n := (max 10 mn)) (j := 3) (by decide) rfl cl_Jx4a65c_7 (by decide) (by omega) (hz1) (hz2 z (Nat.le_refl _)) (mk_mN) (Nat.le_of_ble_eq_true rfl) (Nat.le_trans (m := 10) (by omega) (Nat.le_of_ble_eq_true rfl)) dJx4a65c_grow_92f84_52 ?_
      refine V.widen (k := 1) (n := 10) (by omega) (by omega) ?_
      refine r_dupx1 C dJx4a65c_grow_92f84_55 rfl rfl ?_
      refine r_putR C fl_Jx4a65c_9 rfl rfl rfl (show mK (wMk (mMk M z) z 26 (max 10 mn)) a = 2 + 1 from (va_up_ne _ _ haz).trans hk) dJx4a65c_grow_92f84_56 ?_
      exact r_aret C hr (Or.inr ⟨_, rfl⟩) (⟨z, rfl, GrP.of (newA_0 hz2) (by rw [hk]; decide)⟩) (by first | exact Nat.zero_le _ | decide) (by first | exact Nat.zero_le _ | decide) dJx4a65c_grow_92f84_59
    · exact absurd rfl c17
theorem gr_c {M M1 : Mem} {a q n s : Nat} {f : Nat → Option Nat} (h : NewA M M1 q n) (hk : mK M a = 3) (hc : ∀ i, i < min s (s + max 1 (s / 2 ^ 1)) → mR M1 q i = f i) : ∀ i, i < s → mR (wR M1 a 1 (some q)) q i = f i := by
  have haq : q ≠ a := fun e => by rw [← e, h.1] at hk; cases hk
  intro i hi
  exact (up2_a _ _ haq).trans (hc i (by omega))
set_option maxHeartbeats 4000000 in
set_option maxRecDepth 100000 in
theorem c_growN (l : Launch) (hfl : l.flags = flags0) (G : gW) (M : Mem) (a d s mn : Nat) (ci : Nat) (r : vw_C) (hc : vwCl[ci]? = some r) (hx : r.1 ∈ gxC) (hk : mK M a = 3) (hd : mR M a 1 = some d) (hkd : mK M d = 26) (hn : mN M d = s) (hs1 : 1 ≤ s) (hs : s ≤ 200) (hmn : mn = s + 1) (hel : ∀ i, i < s → ∀ y, mR M d i = some y → mK M y = ci + 1) : CT l yJx4a65c_grow_92f84 cJx4a65c_grow_92f84 4 (some (.array (.object "java/lang/Object"))) 3 1 300 120 G M [.ref a, .int (nI mn)] (fun v M' => ∃ q, v = some (.ref q) ∧ GrP M M' a q (s + max 1 (s / 2 ^ 1)) ∧ ∀ i, i < s → mR M' q i = mR M d i) := by
  refine CT.of hfl rfl (Nat.le_of_ble_eq_true rfl) ?_
  intro pp ee ss mm ar bw mt cd C hgX hr hini
  refine V.eLo (lo' := [(0, .ref a), (1, .int (nI mn))]) rfl ?_
  refine r_aload_n C 0 dJx4a65c_grow_92f84_0 rfl rfl ?_
  refine r_getR C (b := d) fl_Jx4a65c_9 rfl hk hd dJx4a65c_grow_92f84_1 ?_
  refine r_alen C (v := nI s) 6 (by decide) hkd (by rw [show mN _ _ = _ from hn]; rfl) dJx4a65c_grow_92f84_4 ?_
  refine r_istore_n C (lo' := [(2, .int (nI s)), (0, .ref a), (1, .int (nI mn))]) dJx4a65c_grow_92f84_5 rfl (by decide) rfl ?_
  refine r_iload_n C 0 dJx4a65c_grow_92f84_6 rfl rfl ?_
  refine r_if_gtN C (t := 20) (by omega) dJx4a65c_grow_92f84_7 (by decide) (fun c7 => ?_) (fun c7 => ?_)
  · skip
    refine r_iload_n C 0 dJx4a65c_grow_92f84_20 rfl rfl ?_
    refine r_iload_n C 2 dJx4a65c_grow_92f84_21 rfl rfl ?_
    refine r_iload_n C 0 dJx4a65c_grow_92f84_22 rfl rfl ?_
    refine r_isubN C (by omega) dJx4a65c_grow_92f84_23 ?_
    refine r_iload_n C 0 dJx4a65c_grow_92f84_24 rfl rfl ?_
    refine r_iconst C (v := nI 1) dJx4a65c_grow_92f84_25 (by decide) ?_
    refine r_ishr C dJx4a65c_grow_92f84_26 ?_
    refine V.ei (y := nI (s / 2 ^ 1)) (nI_shr (by omega) (by omega)) ?_
    refine r_callS C hgX ml_Jx4a65c_73 st_J8_newLength_cabcc (c_J8_newLength_cabcc l hfl G M s (mn - s) (s / 2 ^ 1) (by omega) (by omega) (by omega) (by omega)) rfl (Nat.le_of_ble_eq_true rfl) ⟨Nat.le_of_ble_eq_true rfl, Nat.le_of_ble_eq_true rfl⟩ ⟨Nat.le_of_ble_eq_true rfl, Nat.le_of_ble_eq_true rfl⟩ dJx4a65c_grow_92f84_27 rfl ?_
    rintro _ _ ⟨rfl, rfl⟩
    refine V.eSt (st' := [.int (nI (s + max (mn - s) (s / 2 ^ 1)))]) rfl ?_
    refine V.ei (y := nI (s + max 1 (s / 2 ^ 1))) (by rw [show mn - s = 1 by omega]) ?_
    refine r_istore_n C (lo' := [(3, .int (nI (s + max 1 (s / 2 ^ 1)))), (2, .int (nI s)), (0, .ref a), (1, .int (nI mn))]) dJx4a65c_grow_92f84_30 rfl (by decide) rfl ?_
    refine r_aload_n C 2 dJx4a65c_grow_92f84_31 rfl rfl ?_
    refine r_aload_n C 2 dJx4a65c_grow_92f84_32 rfl rfl ?_
    refine r_getR C (b := d) fl_Jx4a65c_9 rfl hk hd dJx4a65c_grow_92f84_33 ?_
    refine r_iload_n C 0 dJx4a65c_grow_92f84_36 rfl rfl ?_
    refine r_callS C hgX ml_Jx4a65c_66 st_J7_copyOf_1904c (c_J7_copyOf_1904c l hfl G M d s (s + max 1 (s / 2 ^ 1)) ci r hc hx hkd hn hs (by omega) hel) rfl (Nat.le_of_ble_eq_true rfl) ⟨Nat.le_of_ble_eq_true rfl, Nat.le_of_ble_eq_true rfl⟩ ⟨Nat.le_of_ble_eq_true rfl, Nat.le_of_ble_eq_true rfl⟩ dJx4a65c_grow_92f84_37 rfl ?_
    rintro _ My1 ⟨q1, rfl, hna, hcp⟩
    refine V.eSt (st' := [.ref q1, .ref a]) rfl ?_
    refine r_dupx1 C dJx4a65c_grow_92f84_40 rfl rfl ?_
    refine r_putR C fl_Jx4a65c_9 rfl rfl rfl (show mK My1 a = 2 + 1 from (hna.2.2.2 a (by rw [hk]; decide)).1.trans hk) dJx4a65c_grow_92f84_41 ?_
    exact r_aret C hr (Or.inr ⟨_, rfl⟩) (⟨q1, rfl, GrP.of hna (by rw [hk]; decide), gr_c hna hk hcp⟩) (by first | exact Nat.zero_le _ | decide) (by first | exact Nat.zero_le _ | decide) dJx4a65c_grow_92f84_44
  · exact absurd hs1 (by omega)
set_option maxHeartbeats 4000000 in
set_option maxRecDepth 100000 in
theorem c_growE (l : Launch) (hfl : l.flags = flags0) (G : gW) (M : Mem) (a s : Nat) (hk : mK M a = 3) (hd : mR M a 1 = some (gS G 0)) (hs : mI M a 2 = nI s) (hs0 : s = 0) : CT l yJx4a65c_grow_d5877 cJx4a65c_grow_d5877 1 (some (.array (.object "java/lang/Object"))) 4 1 300 150 G M [.ref a] (fun v M' => ∃ q, v = some (.ref q) ∧ GrP M M' a q (max 10 (s + 1))) := by
  refine CT.of hfl rfl (Nat.le_of_ble_eq_true rfl) ?_
  intro pp ee ss mm ar bw mt cd C hgX hr hini
  refine V.eLo (lo' := [(0, .ref a)]) rfl ?_
  refine r_aload_n C 0 dJx4a65c_grow_d5877_0 rfl rfl ?_
  refine r_aload_n C 0 dJx4a65c_grow_d5877_1 rfl rfl ?_
  refine r_getI C fl_Jx4a65c_48 rfl hk dJx4a65c_grow_d5877_2 ?_
  refine V.ei (y := nI s) (hs) ?_
  refine r_iconst C (v := nI 1) dJx4a65c_grow_d5877_5 (by decide) ?_
  refine r_iaddN C dJx4a65c_grow_d5877_6 ?_
  refine r_callV C hgX (ci := 2) ml_Jx4a65c_69 im_Jx4a65c_grow_92f84 se_Jx4a65c_grow_92f84 rfl rfl hk (c_grow0 l hfl G M a (s + 1) hk hd (by omega)) rfl (Nat.le_of_ble_eq_true rfl) ⟨Nat.le_of_ble_eq_true rfl, Nat.le_of_ble_eq_true rfl⟩ ⟨Nat.le_of_ble_eq_true rfl, Nat.le_of_ble_eq_true rfl⟩ dJx4a65c_grow_d5877_7 rfl ?_
  rintro _ My1 ⟨q1, rfl, hgr⟩
  refine V.eSt (st' := [.ref q1]) rfl ?_
  exact r_aret C hr (Or.inr ⟨_, rfl⟩) (⟨q1, rfl, hgr⟩) (by first | exact Nat.zero_le _ | decide) (by first | exact Nat.zero_le _ | decide) dJx4a65c_grow_d5877_10
set_option maxHeartbeats 4000000 in
set_option maxRecDepth 100000 in
theorem c_growF (l : Launch) (hfl : l.flags = flags0) (G : gW) (M : Mem) (a d s : Nat) (ci : Nat) (r : vw_C) (hc : vwCl[ci]? = some r) (hx : r.1 ∈ gxC) (hk : mK M a = 3) (hd : mR M a 1 = some d) (hs : mI M a 2 = nI s) (hkd : mK M d = 26) (hn : mN M d = s) (hs1 : 1 ≤ s) (hs2 : s ≤ 200) (hel : ∀ i, i < s → ∀ y, mR M d i = some y → mK M y = ci + 1) : CT l yJx4a65c_grow_d5877 cJx4a65c_grow_d5877 1 (some (.array (.object "java/lang/Object"))) 4 1 300 150 G M [.ref a] (fun v M' => ∃ q, v = some (.ref q) ∧ GrP M M' a q (s + max 1 (s / 2 ^ 1)) ∧ ∀ i, i < s → mR M' q i = mR M d i) := by
  refine CT.of hfl rfl (Nat.le_of_ble_eq_true rfl) ?_
  intro pp ee ss mm ar bw mt cd C hgX hr hini
  refine V.eLo (lo' := [(0, .ref a)]) rfl ?_
  refine r_aload_n C 0 dJx4a65c_grow_d5877_0 rfl rfl ?_
  refine r_aload_n C 0 dJx4a65c_grow_d5877_1 rfl rfl ?_
  refine r_getI C fl_Jx4a65c_48 rfl hk dJx4a65c_grow_d5877_2 ?_
  refine V.ei (y := nI s) (hs) ?_
  refine r_iconst C (v := nI 1) dJx4a65c_grow_d5877_5 (by decide) ?_
  refine r_iaddN C dJx4a65c_grow_d5877_6 ?_
  refine r_callV C hgX (ci := 2) ml_Jx4a65c_69 im_Jx4a65c_grow_92f84 se_Jx4a65c_grow_92f84 rfl rfl hk (c_growN l hfl G M a d s (s + 1) ci r hc hx hk hd hkd hn hs1 hs2 rfl hel) rfl (Nat.le_of_ble_eq_true rfl) ⟨Nat.le_of_ble_eq_true rfl, Nat.le_of_ble_eq_true rfl⟩ ⟨Nat.le_of_ble_eq_true rfl, Nat.le_of_ble_eq_true rfl⟩ dJx4a65c_grow_d5877_7 rfl ?_
  rintro _ My1 ⟨q1, rfl, hgr, hgc⟩
  refine V.eSt (st' := [.ref q1]) rfl ?_
  exact r_aret C hr (Or.inr ⟨_, rfl⟩) (⟨q1, rfl, hgr, hgc⟩) (by first | exact Nat.zero_le _ | decide) (by first | exact Nat.zero_le _ | decide) dJx4a65c_grow_d5877_10

