/-! ARRAYLIST -/
/-- a new array q of kind 26 and length n, nothing else touched -/
def NewA (M M' : Mem) (q n : Nat) : Prop := mK M q = 0 ∧ mK M' q = 26 ∧ mN M' q = n ∧ ∀ b, mK M b ≠ 0 → mK M' b = mK M b ∧ mN M' b = mN M b ∧ mI M' b = mI M b ∧ mL M' b = mL M b ∧ mR M' b = mR M b
theorem mk_mN {M : Mem} {z : Nat} : mN (mMk M z) z = 1 := va_up_self _ _ _
theorem newA_cp {M : Mem} {z d n k : Nat} (hz : ∀ a, z ≤ a → mK M a = 0) (hd : mK M d ≠ 0) : NewA M (wCpR (wMk (mMk M z) z 26 n) d z 0 0 k) z n ∧ ∀ i, i < k → mR (wCpR (wMk (mMk M z) z 26 n) d z 0 0 k) z i = mR M d i := by
  have hb : ∀ b, mK M b ≠ 0 → b < z := fun b h => by
    apply Classical.byContradiction
    intro q
    exact h (hz b (by omega))
  refine ⟨⟨hz z (Nat.le_refl _), va_up_self _ _ _, (va_up_ne _ _ (by omega)).trans (va_up_self _ _ _), fun b h => ?_⟩, fun i hi => ?_⟩
  · have h2 := hb b h
    refine ⟨va_up_ne _ _ (by omega), (va_up_ne _ _ (by omega)).trans ((va_up_ne _ _ (by omega)).trans (va_up_ne _ _ (by omega))), va_up_ne _ _ (by omega), va_up_ne _ _ (by omega), ?_⟩
    exact (va_up_ne _ _ (by omega)).trans (va_up_ne _ _ (by omega))
  · have h2 := hb d hd
    have e : mR (wCpR (wMk (mMk M z) z 26 n) d z 0 0 k) z = va_cpy (mR (wMk (mMk M z) z 26 n) d) (mR (wMk (mMk M z) z 26 n) z) 0 0 k := va_up_self _ _ _
    rw [e]
    unfold va_cpy
    rw [if_pos (by omega), Nat.sub_zero, Nat.zero_add]
    exact congrFun (va_up_ne _ _ (by omega)) i
theorem newA_0 {M : Mem} {z n : Nat} (hz : ∀ a, z ≤ a → mK M a = 0) : NewA M (wMk (mMk M z) z 26 n) z n := by
  have hb : ∀ b, mK M b ≠ 0 → b < z := fun b h => by
    apply Classical.byContradiction
    intro q
    exact h (hz b (by omega))
  refine ⟨hz z (Nat.le_refl _), va_up_self _ _ _, (va_up_ne _ _ (by omega)).trans (va_up_self _ _ _), fun b h => ?_⟩
  have h2 := hb b h
  exact ⟨va_up_ne _ _ (by omega), (va_up_ne _ _ (by omega)).trans ((va_up_ne _ _ (by omega)).trans (va_up_ne _ _ (by omega))), va_up_ne _ _ (by omega), va_up_ne _ _ (by omega), va_up_ne _ _ (by omega)⟩
set_option maxHeartbeats 4000000 in
set_option maxRecDepth 100000 in
theorem c_J3_checkIndex_8e157 (l : Launch) (hfl : l.flags = flags0) (G : gW) (M : Mem) (i s : Nat) (hi : i < s) (hs : s < 2 ^ 31) : CT l yJ3_checkIndex_8e157 cJ3_checkIndex_8e157 3 (some .int) 0 0 0 0 G M [.int (nI i), .int (nI s), .null] (fun v M' => v = some (.int (nI i)) ∧ M = M') := by
  refine CT.of hfl rfl (Nat.le_of_ble_eq_true rfl) ?_
  intro pp ee ss mm ar bw mt cd C hgX hr hini
  refine V.eLo (lo' := [(0, .int (nI i)), (1, .int (nI s)), (2, .null)]) rfl ?_
  refine r_iload_n C 0 dJ3_checkIndex_8e157_0 rfl rfl ?_
  refine r_if_ltN C (t := 9) (by omega) dJ3_checkIndex_8e157_1 (by decide) ?_
  refine r_iload_n C 0 dJ3_checkIndex_8e157_4 rfl rfl ?_
  refine r_iload_n C 1 dJ3_checkIndex_8e157_5 rfl rfl ?_
  refine r_icmp_ltN C (t := 16) (by omega) (by omega) dJ3_checkIndex_8e157_6 (by decide) (fun c6 => ?_) (fun c6 => ?_)
  · skip
    refine r_iload_n C 0 dJ3_checkIndex_8e157_16 rfl rfl ?_
    exact r_iret C hr (⟨rfl, rfl⟩) (by first | exact Nat.zero_le _ | decide) (by first | exact Nat.zero_le _ | decide) dJ3_checkIndex_8e157_17
  · exact absurd hi (by omega)
set_option maxHeartbeats 4000000 in
set_option maxRecDepth 100000 in
theorem c_J15_checkIndex_7cf53 (l : Launch) (hfl : l.flags = flags0) (G : gW) (M : Mem) (i s : Nat) (hi : i < s) (hs : s < 2 ^ 31) : CT l yJ15_checkIndex_7cf53 cJ15_checkIndex_7cf53 2 (some .int) 1 0 0 22 G M [.int (nI i), .int (nI s)] (fun v M' => v = some (.int (nI i)) ∧ M = M') := by
  refine CT.of hfl rfl (Nat.le_of_ble_eq_true rfl) ?_
  intro pp ee ss mm ar bw mt cd C hgX hr hini
  refine V.eLo (lo' := [(0, .int (nI i)), (1, .int (nI s))]) rfl ?_
  refine r_iload_n C 0 dJ15_checkIndex_7cf53_0 rfl rfl ?_
  refine r_iload_n C 1 dJ15_checkIndex_7cf53_1 rfl rfl ?_
  refine r_null C dJ15_checkIndex_7cf53_2 ?_
  refine r_callS C hgX ml_J15_105 st_J3_checkIndex_8e157 (c_J3_checkIndex_8e157 l hfl G M i s (by omega) (by omega)) rfl (Nat.le_of_ble_eq_true rfl) ⟨Nat.le_of_ble_eq_true rfl, Nat.le_of_ble_eq_true rfl⟩ ⟨Nat.le_of_ble_eq_true rfl, Nat.le_of_ble_eq_true rfl⟩ dJ15_checkIndex_7cf53_3 rfl ?_
  rintro _ _ ⟨rfl, rfl⟩
  refine V.eSt (st' := [.int (nI i)]) rfl ?_
  exact r_iret C hr (⟨rfl, rfl⟩) (by first | exact Nat.zero_le _ | decide) (by first | exact Nat.zero_le _ | decide) dJ15_checkIndex_7cf53_6
set_option maxHeartbeats 4000000 in
set_option maxRecDepth 100000 in
theorem c_Jx4a65c_elementData_915e3 (l : Launch) (hfl : l.flags = flags0) (G : gW) (M : Mem) (a d n i b : Nat) (hk : mK M a = 3) (hd : mR M a 1 = some d) (hkd : mK M d = 26) (hn : mN M d = n) (hn2 : n < 2 ^ 31) (hi : i < n) (hr_ : mR M d i = some b) : CT l yJx4a65c_elementData_915e3 cJx4a65c_elementData_915e3 2 (some (.object "java/lang/Object")) 0 0 0 0 G M [.ref a, .int (nI i)] (fun v M' => v = some (.ref b) ∧ M = M') := by
  refine CT.of hfl rfl (Nat.le_of_ble_eq_true rfl) ?_
  intro pp ee ss mm ar bw mt cd C hgX hr hini
  refine V.eLo (lo' := [(0, .ref a), (1, .int (nI i))]) rfl ?_
  refine r_aload_n C 0 dJx4a65c_elementData_915e3_0 rfl rfl ?_
  refine r_getR C (b := d) fl_Jx4a65c_9 rfl hk hd dJx4a65c_elementData_915e3_1 ?_
  refine r_iload_n C 1 dJx4a65c_elementData_915e3_4 rfl rfl ?_
  refine r_aaloadN C (b := b) 3 (by decide) hkd hn (by omega) (by omega) hr_ dJx4a65c_elementData_915e3_5 ?_
  exact r_aret C hr (Or.inl ⟨_, rfl⟩) (⟨rfl, rfl⟩) (by first | exact Nat.zero_le _ | decide) (by first | exact Nat.zero_le _ | decide) dJx4a65c_elementData_915e3_6
set_option maxHeartbeats 4000000 in
set_option maxRecDepth 100000 in
theorem c_Jx4a65c_get_915e3 (l : Launch) (hfl : l.flags = flags0) (G : gW) (M : Mem) (a d n i b s : Nat) (hk : mK M a = 3) (hd : mR M a 1 = some d) (hs : mI M a 2 = nI s) (hkd : mK M d = 26) (hn : mN M d = n) (hn2 : n < 2 ^ 31) (hsn : s ≤ n) (hi : i < s) (hr_ : mR M d i = some b) : CT l yJx4a65c_get_915e3 cJx4a65c_get_915e3 2 (some (.object "java/lang/Object")) 2 0 0 43 G M [.ref a, .int (nI i)] (fun v M' => v = some (.ref b) ∧ M = M') := by
  refine CT.of hfl rfl (Nat.le_of_ble_eq_true rfl) ?_
  intro pp ee ss mm ar bw mt cd C hgX hr hini
  refine V.eLo (lo' := [(0, .ref a), (1, .int (nI i))]) rfl ?_
  refine r_iload_n C 1 dJx4a65c_get_915e3_0 rfl rfl ?_
  refine r_aload_n C 0 dJx4a65c_get_915e3_1 rfl rfl ?_
  refine r_getI C fl_Jx4a65c_48 rfl hk dJx4a65c_get_915e3_2 ?_
  refine V.ei (y := nI s) (hs) ?_
  refine r_callS C hgX ml_Jx4a65c_118 st_J15_checkIndex_7cf53 (c_J15_checkIndex_7cf53 l hfl G M i s (by omega) (by omega)) rfl (Nat.le_of_ble_eq_true rfl) ⟨Nat.le_of_ble_eq_true rfl, Nat.le_of_ble_eq_true rfl⟩ ⟨Nat.le_of_ble_eq_true rfl, Nat.le_of_ble_eq_true rfl⟩ dJx4a65c_get_915e3_5 rfl ?_
  rintro _ _ ⟨rfl, rfl⟩
  refine V.eSt (st' := [.int (nI i)]) rfl ?_
  refine r_pop C dJx4a65c_get_915e3_8 rfl ?_
  refine r_aload_n C 0 dJx4a65c_get_915e3_9 rfl rfl ?_
  refine r_iload_n C 1 dJx4a65c_get_915e3_10 rfl rfl ?_
  refine r_callV C hgX (ci := 2) ml_Jx4a65c_123 im_Jx4a65c_elementData_915e3 se_Jx4a65c_elementData_915e3 rfl rfl hk (c_Jx4a65c_elementData_915e3 l hfl G M a d n i b hk hd hkd hn hn2 (by omega) (hr_)) rfl (Nat.le_of_ble_eq_true rfl) ⟨Nat.le_of_ble_eq_true rfl, Nat.le_of_ble_eq_true rfl⟩ ⟨Nat.le_of_ble_eq_true rfl, Nat.le_of_ble_eq_true rfl⟩ dJx4a65c_get_915e3_11 rfl ?_
  rintro _ _ ⟨rfl, rfl⟩
  refine V.eSt (st' := [.ref b]) rfl ?_
  exact r_aret C hr (Or.inl ⟨_, rfl⟩) (⟨rfl, rfl⟩) (by first | exact Nat.zero_le _ | decide) (by first | exact Nat.zero_le _ | decide) dJx4a65c_get_915e3_14
set_option maxHeartbeats 4000000 in
set_option maxRecDepth 100000 in
theorem c_Jx4a65c_size_8abf5 (l : Launch) (hfl : l.flags = flags0) (G : gW) (M : Mem) (a s : Nat) (hk : mK M a = 3) (hs : mI M a 2 = nI s) : CT l yJx4a65c_size_8abf5 cJx4a65c_size_8abf5 1 (some .int) 0 0 0 0 G M [.ref a] (fun v M' => v = some (.int (nI s)) ∧ M = M') := by
  refine CT.of hfl rfl (Nat.le_of_ble_eq_true rfl) ?_
  intro pp ee ss mm ar bw mt cd C hgX hr hini
  refine V.eLo (lo' := [(0, .ref a)]) rfl ?_
  refine r_aload_n C 0 dJx4a65c_size_8abf5_0 rfl rfl ?_
  refine r_getI C fl_Jx4a65c_48 rfl hk dJx4a65c_size_8abf5_1 ?_
  refine V.ei (y := nI s) (hs) ?_
  exact r_iret C hr (⟨rfl, rfl⟩) (by first | exact Nat.zero_le _ | decide) (by first | exact Nat.zero_le _ | decide) dJx4a65c_size_8abf5_4
set_option maxHeartbeats 4000000 in
set_option maxRecDepth 100000 in
theorem c_J8_newLength_cabcc (l : Launch) (hfl : l.flags = flags0) (G : gW) (M : Mem) (o x y : Nat) (ho : o < 2 ^ 20) (hx : x < 2 ^ 20) (hy : y < 2 ^ 20) (h1 : 1 ≤ x) : CT l yJ8_newLength_cabcc cJ8_newLength_cabcc 4 (some .int) 1 0 0 30 G M [.int (nI o), .int (nI x), .int (nI y)] (fun v M' => v = some (.int (nI (o + max x y))) ∧ M = M') := by
  refine CT.of hfl rfl (Nat.le_of_ble_eq_true rfl) ?_
  intro pp ee ss mm ar bw mt cd C hgX hr hini
  refine V.eLo (lo' := [(0, .int (nI o)), (1, .int (nI x)), (2, .int (nI y))]) rfl ?_
  refine r_iload_n C 0 dJ8_newLength_cabcc_0 rfl rfl ?_
  refine r_iload_n C 1 dJ8_newLength_cabcc_1 rfl rfl ?_
  refine r_iload_n C 2 dJ8_newLength_cabcc_2 rfl rfl ?_
  refine r_maxIN C km_J8_194 (by omega) (by omega) (Nat.le_of_ble_eq_true rfl) (Nat.le_of_ble_eq_true rfl) (by first | exact Nat.zero_le _ | decide) (by first | exact Nat.zero_le _ | decide) dJ8_newLength_cabcc_3 ?_
  refine r_iaddN C dJ8_newLength_cabcc_6 ?_
  refine r_istore_n C (lo' := [(3, .int (nI (o + max x y))), (0, .int (nI o)), (1, .int (nI x)), (2, .int (nI y))]) dJ8_newLength_cabcc_7 rfl (by decide) rfl ?_
  refine r_iconst C (v := nI 0) dJ8_newLength_cabcc_8 (by decide) ?_
  refine r_iload_n C 0 dJ8_newLength_cabcc_9 rfl rfl ?_
  refine r_icmp_geN C (t := 21) (by omega) (by omega) dJ8_newLength_cabcc_10 (by decide) (fun c10 => ?_) (fun c10 => ?_)
  · exact absurd h1 (by omega)
  · skip
    refine r_iload_n C 0 dJ8_newLength_cabcc_13 rfl rfl ?_
    refine r_ldc C (v := 2147483639) ki_J8_200 dJ8_newLength_cabcc_14 ?_
    refine V.ei (y := nI 2147483639) (by decide) ?_
    refine r_icmp_gtN C (t := 21) (by omega) (by omega) dJ8_newLength_cabcc_16 (by decide) (fun c16 => ?_) (fun c16 => ?_)
    · exact absurd h1 (by omega)
    · skip
      refine r_iload_n C 0 dJ8_newLength_cabcc_19 rfl rfl ?_
      exact r_iret C hr (⟨rfl, rfl⟩) (by first | exact Nat.zero_le _ | decide) (by first | exact Nat.zero_le _ | decide) dJ8_newLength_cabcc_20
theorem cp_el {M : Mem} {d z s n k ci : Nat} (hz : ∀ a, z ≤ a → mK M a = 0) (hkd : mK M d = 26) (hel : ∀ i, i < s → ∀ y, mR M d i = some y → mK M y = ci + 1) (hk : k ≤ s) : ∀ i, i < k → ∀ y, mR (wMk (mMk M z) z 26 n) d (0 + i) = some y → mK (wMk (mMk M z) z 26 n) y = ci + 1 := by
  intro i hi y hy
  have hdz : d ≠ z := fun e => by rw [← e] at hz; rw [hz d (Nat.le_refl _)] at hkd; cases hkd
  have h1 : mR (wMk (mMk M z) z 26 n) d = mR M d := va_up_ne _ _ hdz
  rw [h1, Nat.zero_add] at hy
  have h2 := hel i (by omega) y hy
  have hyz : y ≠ z := fun e => by rw [e, hz z (Nat.le_refl _)] at h2; omega
  exact (va_up_ne _ _ hyz).trans h2
set_option maxHeartbeats 4000000 in
set_option maxRecDepth 100000 in
theorem c_J7_copyOf_6403c (l : Launch) (hfl : l.flags = flags0) (G : gW) (M : Mem) (d s n : Nat) (ci : Nat) (r : vw_C) (hc : vwCl[ci]? = some r) (hx : r.1 ∈ gxC) (hkd : mK M d = 26) (hn : mN M d = s) (hs : s ≤ 200) (hn2 : n ≤ 300) (hel : ∀ i, i < s → ∀ y, mR M d i = some y → mK M y = ci + 1) : CT l yJ7_copyOf_6403c cJ7_copyOf_6403c 4 (some (.array (.object "java/lang/Object"))) 1 1 300 30 G M [.ref d, .int (nI n), .ref (gS G 4)] (fun v M' => ∃ q, v = some (.ref q) ∧ NewA M M' q n ∧ ∀ i, i < min s n → mR M' q i = mR M d i) := by
  refine CT.of hfl rfl (Nat.le_of_ble_eq_true rfl) ?_
  intro pp ee ss mm ar bw mt cd C hgX hr hini
  refine V.eLo (lo' := [(0, .ref d), (1, .int (nI n)), (2, .ref (gS G 4))]) rfl ?_
  refine r_aload_n C 2 dJ7_copyOf_6403c_0 rfl rfl ?_
  refine r_ldcM C hgX cl_J7_110 dJ7_copyOf_6403c_1 ?_
  refine r_acmp_ne C (t := 13) dJ7_copyOf_6403c_3 (by decide) (fun c3 => ?_) (fun c3 => ?_)
  · exact absurd rfl c3
  · skip
    refine V.mark C (fun z hz1 hz2 => ?_)
    have hdl : d < z := by
      apply Classical.byContradiction
      intro q
      rw [hz2 d (by omega)] at hkd
      cases hkd
    have hdz : d ≠ z := by omega
    refine r_iload_n C 1 dJ7_copyOf_6403c_6 rfl rfl ?_
    refine r_anew C hgX (q := z) (n := n) (j := 3) (by decide) rfl cl_J7_2 (by decide) (by omega) (hz1) (hz2 z (Nat.le_refl _)) (mk_mN) (Nat.le_of_ble_eq_true rfl) (Nat.le_trans (m := 300) (by omega) (Nat.le_of_ble_eq_true rfl)) dJ7_copyOf_6403c_7 ?_
    refine V.widen (k := 1) (n := 300) (by omega) (by omega) ?_
    refine r_goto C (t := 24) dJ7_copyOf_6403c_10 (by decide) ?_
    refine r_astore_n C (lo' := [(3, .ref z), (0, .ref d), (1, .int (nI n)), (2, .ref (gS G 4))]) dJ7_copyOf_6403c_24 rfl (by decide) rfl ?_
    refine r_aload_n C 1 dJ7_copyOf_6403c_25 rfl rfl ?_
    refine r_iconst C (v := nI 0) dJ7_copyOf_6403c_26 (by decide) ?_
    refine r_aload_n C 0 dJ7_copyOf_6403c_27 rfl rfl ?_
    refine r_iconst C (v := nI 0) dJ7_copyOf_6403c_28 (by decide) ?_
    refine r_aload_n C 1 dJ7_copyOf_6403c_29 rfl rfl ?_
    refine r_alen C (v := nI s) 6 (by decide) (show mK (wMk (mMk M z) z 26 n) d = 26 from (va_up_ne _ _ hdz).trans hkd) (by rw [show mN _ _ = _ from (show mN (wMk (mMk M z) z 26 n) d = s from (va_up_ne _ _ (by omega)).trans ((va_up_ne _ _ hdz).trans ((va_up_ne _ _ hdz).trans hn)))]; rfl) dJ7_copyOf_6403c_30 ?_
    refine r_iload_n C 2 dJ7_copyOf_6403c_31 rfl rfl ?_
    refine r_minIN C km_J7_304 (by omega) (by omega) (Nat.le_of_ble_eq_true rfl) (Nat.le_of_ble_eq_true rfl) (by first | exact Nat.zero_le _ | decide) (by first | exact Nat.zero_le _ | decide) dJ7_copyOf_6403c_32 ?_
    refine r_cpR C hgX (ci := ci) ac_J7_150 (show mK (wMk (mMk M z) z 26 n) d = 26 from (va_up_ne _ _ hdz).trans hkd) (show mK (wMk (mMk M z) z 26 n) z = 26 from va_up_self _ _ _) (show mN (wMk (mMk M z) z 26 n) d = s from (va_up_ne _ _ (by omega)).trans ((va_up_ne _ _ hdz).trans ((va_up_ne _ _ hdz).trans hn))) (show mN (wMk (mMk M z) z 26 n) z = n from (va_up_ne _ _ (by omega)).trans (va_up_self _ _ _)) (by omega) (by omega) (by omega) (by omega) hc (hx) (cp_el hz2 hkd hel (Nat.min_le_left _ _)) (Nat.le_of_ble_eq_true rfl) (Nat.le_of_ble_eq_true rfl) dJ7_copyOf_6403c_35 ?_
    refine r_aload_n C 0 dJ7_copyOf_6403c_38 rfl rfl ?_
    exact r_aret C hr (Or.inr ⟨_, rfl⟩) (⟨z, rfl, newA_cp hz2 (by rw [hkd]; decide)⟩) (by first | exact Nat.zero_le _ | decide) (by first | exact Nat.zero_le _ | decide) dJ7_copyOf_6403c_39
set_option maxHeartbeats 4000000 in
set_option maxRecDepth 100000 in
theorem c_J7_copyOf_1904c (l : Launch) (hfl : l.flags = flags0) (G : gW) (M : Mem) (d s n : Nat) (ci : Nat) (r : vw_C) (hc : vwCl[ci]? = some r) (hx : r.1 ∈ gxC) (hkd : mK M d = 26) (hn : mN M d = s) (hs : s ≤ 200) (hn2 : n ≤ 300) (hel : ∀ i, i < s → ∀ y, mR M d i = some y → mK M y = ci + 1) : CT l yJ7_copyOf_1904c cJ7_copyOf_1904c 2 (some (.array (.object "java/lang/Object"))) 2 1 300 53 G M [.ref d, .int (nI n)] (fun v M' => ∃ q, v = some (.ref q) ∧ NewA M M' q n ∧ ∀ i, i < min s n → mR M' q i = mR M d i) := by
  refine CT.of hfl rfl (Nat.le_of_ble_eq_true rfl) ?_
  intro pp ee ss mm ar bw mt cd C hgX hr hini
  refine V.eLo (lo' := [(0, .ref d), (1, .int (nI n))]) rfl ?_
  refine r_aload_n C 0 dJ7_copyOf_1904c_0 rfl rfl ?_
  refine r_iload_n C 1 dJ7_copyOf_1904c_1 rfl rfl ?_
  refine r_aload_n C 0 dJ7_copyOf_1904c_2 rfl rfl ?_
  refine r_getCl C hgX (show mK M d = 26 from hkd) (Nat.le_of_ble_eq_true rfl) (Nat.le_of_ble_eq_true rfl) dJ7_copyOf_1904c_3 gc_l ?_
  refine r_callS C hgX ml_J7_300 st_J7_copyOf_6403c (c_J7_copyOf_6403c l hfl G M d s n ci r hc hx hkd hn hs hn2 hel) rfl (Nat.le_of_ble_eq_true rfl) ⟨Nat.le_of_ble_eq_true rfl, Nat.le_of_ble_eq_true rfl⟩ ⟨Nat.le_of_ble_eq_true rfl, Nat.le_of_ble_eq_true rfl⟩ dJ7_copyOf_1904c_6 rfl ?_
  rintro _ My1 ⟨q1, rfl, hna, hcp⟩
  refine V.eSt (st' := [.ref q1]) rfl ?_
  exact r_aret C hr (Or.inr ⟨_, rfl⟩) (⟨q1, rfl, hna, hcp⟩) (by first | exact Nat.zero_le _ | decide) (by first | exact Nat.zero_le _ | decide) dJ7_copyOf_1904c_9

