/-! ARRAYLIST: add at a place -/
def inE (e : Nat → Nat) (k b : Nat) : Nat → Nat := fun i => if i < k then e i else if i = k then b else e (i - 1)
def InP (M M' : Mem) (a d s k b : Nat) : Prop := mI M' a 2 = nI (s + 1) ∧ (∃ d', mR M' a 1 = some d' ∧ mK M' d' = 26 ∧ s + 1 ≤ mN M' d' ∧ 10 ≤ mN M' d' ∧ mN M' d' ≤ 300 ∧ (∀ i, i < s + 1 → mR M' d' i = if i < k then mR M d i else if i = k then some b else mR M d (i - 1)) ∧ (mK M d' = 0 ∨ d' = d)) ∧
  (∀ k, k ≠ 1 → mR M' a k = mR M a k) ∧ ∀ x, mK M x ≠ 0 → mK M' x = mK M x ∧ mN M' x = mN M x ∧ mL M' x = mL M x ∧ (x ≠ a → mI M' x = mI M x) ∧ (x ≠ a → x ≠ d → mR M' x = mR M x)
theorem in_R {X : Mem} {t k s b i : Nat} (hi : i < s + 1) (hk : k ≤ s) {f : Nat → Option Nat} (hf : ∀ i, i < s → mR X t i = f i) {a : Nat} {v : Int32} :
    mR (wI (wR (wCpR X t t k (k + 1) (s - k)) t k (some b)) a 2 v) t i = if i < k then f i else if i = k then some b else f (i - 1) := by
  have e : mR (wCpR X t t k (k + 1) (s - k)) t = va_cpy (mR X t) (mR X t) k (k + 1) (s - k) := va_up_self _ _ _
  show up2 (mR (wCpR X t t k (k + 1) (s - k))) t k (some b) t i = _
  by_cases z : i = k
  · subst z
    rw [up2_same, if_neg (by omega), if_pos rfl]
  · rw [up2_k _ _ z, e]
    unfold va_cpy
    by_cases z2 : i < k
    · rw [if_neg (by omega), if_pos z2]; exact hf i (by omega)
    · rw [if_pos (by omega), if_neg z2, if_neg z, show k + (i - (k + 1)) = i - 1 by omega]; exact hf _ (by omega)
theorem in_o {X : Mem} {t k s b a x : Nat} {v : Int32} (hx : x ≠ t) : mR (wI (wR (wCpR X t t k (k + 1) (s - k)) t k (some b)) a 2 v) x = mR X x := (up2_row _ _ hx).trans (va_up_ne _ _ hx)
theorem InP.room {M : Mem} {a d s n k b : Nat} {v : Int32} (hk : mK M a = 3) (hd : mR M a 1 = some d) (hkd : mK M d = 26) (hn : mN M d = n) (hs : s < n) (h10 : 10 ≤ n) (hn2 : n ≤ 300) (hks : k ≤ s) : InP M (wI (wR (wCpR (wI M a 0 v) d d k (k + 1) (s - k)) d k (some b)) a 2 (nI (s + 1))) a d s k b := by
  have had : a ≠ d := fun e => by rw [e, hkd] at hk; cases hk
  refine ⟨up2_same _ _ _ _, ⟨d, (congrFun (in_o had) 1).trans hd, hkd, by show s + 1 ≤ mN M d; omega, by show 10 ≤ mN M d; omega, by show mN M d ≤ 300; omega, fun i hi => in_R (X := wI M a 0 v) (f := mR M d) hi hks (fun _ _ => rfl), .inr rfl⟩, fun k hk => congrFun (in_o had) k, fun x hx => ⟨rfl, rfl, rfl, fun z => (up2_row _ _ z).trans (wI_a z), fun z1 z2 => in_o z2⟩⟩
theorem InP.grown {M M1 : Mem} {a d q s n k b : Nat} {v : Int32} (hk : mK M a = 3) (h : GrP (wI M a 0 v) M1 a q n) (hs : s < n) (h10 : 10 ≤ n) (hn2 : n ≤ 300) (hks : k ≤ s) (hc : ∀ i, i < s → mR M1 q i = mR M d i) : InP M (wI (wR (wCpR M1 q q k (k + 1) (s - k)) q k (some b)) a 2 (nI (s + 1))) a d s k b := by
  obtain ⟨h1, h2, h3, h4, h5, h6⟩ := h
  have haq : a ≠ q := fun e => by rw [e, show mK M q = 0 from h1] at hk; cases hk
  refine ⟨up2_same _ _ _ _, ⟨q, (congrFun (in_o haq) 1).trans h4, h2, by show s + 1 ≤ mN M1 q; omega, by show 10 ≤ mN M1 q; omega, by show mN M1 q ≤ 300; omega, fun i hi => in_R hi hks hc, .inl h1⟩, fun k hk => (congrFun (in_o haq) k).trans (h5 k hk), fun x hx => ?_⟩
  obtain ⟨e1, e2, e3, e4, e5⟩ := h6 x hx
  have hxq : x ≠ q := fun e => hx (by rw [e]; exact h1)
  exact ⟨e1, e2, e4, fun z => (up2_row _ _ z).trans (e3.trans (wI_a z)), fun z1 z2 => (in_o hxq).trans (e5 z1)⟩
theorem LI.ins {G : gW} {M M' : Mem} {ci a s d b k : Nat} {e : Nat → Nat} (h : LI G M ci a s e) (hd : mR M a 1 = some d) (hb_ : mK M b = ci + 1) (hk : k ≤ s) (g : InP M M' a d s k b) : LI G M' ci a (s + 1) (inE e k b) ∧ LF M M' a d := by
  obtain ⟨h1, h2, h3, d0, h4, h5⟩ := h
  cases hd.symm.trans h4
  obtain ⟨g1, ⟨d', q1, q2, q3, q4, q5, q6, q8⟩, g4, g5⟩ := g
  have kk : ∀ x, mK M x ≠ 0 → mK M' x = mK M x := fun x hx => (g5 x hx).1
  have old : ∀ i, i < s → mR M d i = some (e i) := fun i hi => by
    rcases h5 with h5 | ⟨p1, p2, p3, p4, p5⟩
    · omega
    · exact p5 i hi
  have ek : ∀ i, i < s → mK M' (e i) = ci + 1 := fun i hi => by
    have := h3 i hi
    exact (kk _ (by rw [this]; omega)).trans this
  refine ⟨⟨(kk a (by rw [h1]; decide)).trans h1, g1, fun i hi => ?_, d', q1, .inr ⟨q2, q3, q4, q5, fun i hi => ?_⟩⟩, g4, ⟨d', q1, q2, q8⟩, g5⟩
  · show mK M' (if i < k then e i else if i = k then b else e (i - 1)) = ci + 1
    by_cases z : i < k
    · rw [if_pos z]; exact ek i (by omega)
    · rw [if_neg z]
      by_cases z2 : i = k
      · rw [if_pos z2]; exact (kk b (by rw [hb_]; omega)).trans hb_
      · rw [if_neg z2]; exact ek _ (by omega)
  · rw [q6 i hi]
    show _ = some (if i < k then e i else if i = k then b else e (i - 1))
    by_cases z : i < k
    · rw [if_pos z, if_pos z]; exact old i (by omega)
    · rw [if_neg z, if_neg z]
      by_cases z2 : i = k
      · rw [if_pos z2, if_pos z2]
      · rw [if_neg z2, if_neg z2]; exact old _ (by omega)
set_option maxHeartbeats 1000000 in
set_option maxRecDepth 100000 in
theorem c_Jx4a65c_rangeCheckForAdd_d00df (l : Launch) (hfl : l.flags = flags0) (G : gW) (M : Mem) (a s k : Nat) (hk : mK M a = 3) (hs : mI M a 2 = nI s) (hs2 : s ≤ 1000) (hks : k ≤ s) : CT l yJx4a65c_rangeCheckForAdd_d00df cJx4a65c_rangeCheckForAdd_d00df 2 none 0 0 0 0 G M [.ref a, .int (nI k)] (fun v M' => v = none ∧ M = M') := by
  refine CT.of hfl rfl (Nat.le_of_ble_eq_true rfl) ?_
  intro pp ee ss mm ar bw mt cd C hgX hr hini
  refine V.eLo (lo' := [(0, .ref a), (1, .int (nI k))]) rfl ?_
  refine r_iload_n C 1 dJx4a65c_rangeCheckForAdd_d00df_0 rfl rfl ?_
  refine r_aload_n C 0 dJx4a65c_rangeCheckForAdd_d00df_1 rfl rfl ?_
  refine r_getI C fl_Jx4a65c_48 rfl hk dJx4a65c_rangeCheckForAdd_d00df_2 ?_
  refine V.ei (y := nI s) (hs) ?_
  refine r_icmp_gtN C (t := 12) (by omega) (by omega) dJx4a65c_rangeCheckForAdd_d00df_5 (by decide) (fun c5 => ?_) (fun c5 => ?_)
  · exact absurd hks (by omega)
  · skip
    refine r_iload_n C 1 dJx4a65c_rangeCheckForAdd_d00df_8 rfl rfl ?_
    refine r_if_geN C (t := 25) (by omega) dJx4a65c_rangeCheckForAdd_d00df_9 (by decide) ?_
    exact r_vret C hr (⟨rfl, rfl⟩) (by first | exact Nat.zero_le _ | decide) (by first | exact Nat.zero_le _ | decide) dJx4a65c_rangeCheckForAdd_d00df_25
set_option maxHeartbeats 1000000 in
set_option maxRecDepth 100000 in
theorem c_addkE (l : Launch) (hfl : l.flags = flags0) (G : gW) (M : Mem) (a d s : Nat) (ci : Nat) (r : vw_C) (hc : vwCl[ci]? = some r) (hx : r.1 ∈ gxC) (hk : mK M a = 3) (hd : mR M a 1 = some (gS G 0)) (hs : mI M a 2 = nI s) (hs0 : s = 0) (hdd : d = gS G 0) (k b : Nat) (hks : k ≤ s) (hb_ : mK M b = ci + 1) : CT l yJx4a65c_add_7a177 cJx4a65c_add_7a177 5 none 5 1 300 190 G M [.ref a, .int (nI k), .ref b] (fun v M' => v = none ∧ InP M M' a d s k b) := by
  refine CT.of hfl rfl (Nat.le_of_ble_eq_true rfl) ?_
  intro pp ee ss mm ar bw mt cd C hgX hr hini
  refine V.eLo (lo' := [(0, .ref a), (1, .int (nI k)), (2, .ref b)]) rfl ?_
  refine r_aload_n C 0 dJx4a65c_add_7a177_0 rfl rfl ?_
  refine r_iload_n C 1 dJx4a65c_add_7a177_1 rfl rfl ?_
  refine r_callV C hgX (ci := 2) ml_Jx4a65c_135 im_Jx4a65c_rangeCheckForAdd_d00df se_Jx4a65c_rangeCheckForAdd_d00df rfl rfl hk (c_Jx4a65c_rangeCheckForAdd_d00df l hfl G M a s k hk hs (by omega) hks) rfl (Nat.le_of_ble_eq_true rfl) ⟨Nat.le_of_ble_eq_true rfl, Nat.le_of_ble_eq_true rfl⟩ ⟨Nat.le_of_ble_eq_true rfl, Nat.le_of_ble_eq_true rfl⟩ dJx4a65c_add_7a177_2 rfl ?_
  rintro _ _ ⟨rfl, rfl⟩
  refine r_aload_n C 0 dJx4a65c_add_7a177_5 rfl rfl ?_
  refine r_dup C dJx4a65c_add_7a177_6 rfl ?_
  refine r_getI C fl_Jx4a65c_63 rfl hk dJx4a65c_add_7a177_7 ?_
  refine r_iconst C (v := nI 1) dJx4a65c_add_7a177_10 (by decide) ?_
  refine r_iadd C dJx4a65c_add_7a177_11 ?_
  refine V.topi (fun v1 ev1 => ?_)
  refine r_putI C fl_Jx4a65c_63 hk dJx4a65c_add_7a177_12 ?_
  refine r_aload_n C 0 dJx4a65c_add_7a177_15 rfl rfl ?_
  refine r_getI C fl_Jx4a65c_48 rfl (show mK (wI M a 0 v1) a = 2 + 1 from hk) dJx4a65c_add_7a177_16 ?_
  refine V.ei (y := nI s) ((wI_k (by decide)).trans hs) ?_
  refine r_dup C dJx4a65c_add_7a177_19 rfl ?_
  refine r_istore_n C (lo' := [(3, .int (nI s)), (0, .ref a), (1, .int (nI k)), (2, .ref b)]) dJx4a65c_add_7a177_20 rfl (by decide) rfl ?_
  refine r_aload_n C 1 dJx4a65c_add_7a177_21 rfl rfl ?_
  refine r_getR C (b := (gS G 0)) fl_Jx4a65c_9 rfl (show mK (wI M a 0 v1) a = 2 + 1 from hk) (show mR (wI M a 0 v1) a 1 = some _ from hd) dJx4a65c_add_7a177_22 ?_
  refine r_dup C dJx4a65c_add_7a177_25 rfl ?_
  refine r_astore C (lo' := [(4, .ref (gS G 0)), (3, .int (nI s)), (0, .ref a), (1, .int (nI k)), (2, .ref b)]) dJx4a65c_add_7a177_26 (by decide) rfl ?_
  refine r_alen0 C hgX dJx4a65c_add_7a177_28 ?_
  refine r_icmp_neN C (t := 38) (by omega) (by omega) dJx4a65c_add_7a177_29 (by decide) (fun c29 => ?_) (fun c29 => ?_)
  · exact absurd hs0 (by omega)
  · skip
    refine r_aload_n C 2 dJx4a65c_add_7a177_32 rfl rfl ?_
    refine r_callV C hgX (ci := 2) ml_Jx4a65c_129 im_Jx4a65c_grow_d5877 se_Jx4a65c_grow_d5877 rfl rfl (show mK (wI M a 0 v1) a = 2 + 1 from (show mK (wI M a 0 v1) a = 2 + 1 from hk)) (c_growE l hfl G (wI M a 0 v1) a s hk hd ((wI_k (by decide)).trans hs) hs0) rfl (Nat.le_of_ble_eq_true rfl) ⟨Nat.le_of_ble_eq_true rfl, Nat.le_of_ble_eq_true rfl⟩ ⟨Nat.le_of_ble_eq_true rfl, Nat.le_of_ble_eq_true rfl⟩ dJx4a65c_add_7a177_33 rfl ?_
    rintro _ My3 ⟨q3, rfl, hgr⟩
    refine V.eSt (st' := [.ref q3]) rfl ?_
    refine r_astore C (lo' := [(4, .ref q3), (3, .int (nI s)), (0, .ref a), (1, .int (nI k)), (2, .ref b)]) dJx4a65c_add_7a177_36 (by decide) rfl ?_
    refine r_aload C 0 dJx4a65c_add_7a177_38 rfl ?_
    refine r_iload_n C 3 dJx4a65c_add_7a177_40 rfl rfl ?_
    refine r_aload C 0 dJx4a65c_add_7a177_41 rfl ?_
    refine r_iload_n C 3 dJx4a65c_add_7a177_43 rfl rfl ?_
    refine r_iconst C (v := nI 1) dJx4a65c_add_7a177_44 (by decide) ?_
    refine r_iaddN C dJx4a65c_add_7a177_45 ?_
    refine r_iload_n C 1 dJx4a65c_add_7a177_46 rfl rfl ?_
    refine r_iload_n C 3 dJx4a65c_add_7a177_47 rfl rfl ?_
    refine r_isubN C (by omega) dJx4a65c_add_7a177_48 ?_
    refine r_cpR C hgX (ci := ci) ac_Jx4a65c_112 (show mK My3 q3 = 26 from hgr.2.1) (show mK My3 q3 = 26 from hgr.2.1) (show mN My3 q3 = max 10 (s + 1) from hgr.2.2.1) (show mN My3 q3 = max 10 (s + 1) from hgr.2.2.1) (by omega) (by omega) (by omega) (by omega) hc (hx) (fun i hi => absurd hi (by omega)) (Nat.le_of_ble_eq_true rfl) (Nat.le_of_ble_eq_true rfl) dJx4a65c_add_7a177_49 ?_
    refine r_aload C 0 dJx4a65c_add_7a177_52 rfl ?_
    refine r_iload_n C 3 dJx4a65c_add_7a177_54 rfl rfl ?_
    refine r_aload_n C 4 dJx4a65c_add_7a177_55 rfl rfl ?_
    refine r_aast C hgX (j := 3) (by decide) (show mK (wCpR My3 q3 q3 k (k + 1) (s - k)) q3 = 26 from hgr.2.1) (show mN (wCpR My3 q3 q3 k (k + 1) (s - k)) q3 = max 10 (s + 1) from hgr.2.2.1) (by omega) (by omega) ((hgr.2.2.2.2.2 b (by show mK M b ≠ 0; rw [hb_]; omega)).1.trans hb_) hc rfl (.inr ⟨rfl, hx⟩) dJx4a65c_add_7a177_56 ?_
    refine r_aload_n C 2 dJx4a65c_add_7a177_57 rfl rfl ?_
    refine r_iload_n C 1 dJx4a65c_add_7a177_58 rfl rfl ?_
    refine r_iconst C (v := nI 1) dJx4a65c_add_7a177_59 (by decide) ?_
    refine r_iaddN C dJx4a65c_add_7a177_60 ?_
    refine r_putI C fl_Jx4a65c_48 (show mK (wR (wCpR My3 q3 q3 k (k + 1) (s - k)) q3 k (some b)) a = 2 + 1 from (hgr.2.2.2.2.2 a (by show mK M a ≠ 0; rw [hk]; decide)).1.trans hk) dJx4a65c_add_7a177_61 ?_
    exact r_vret C hr (⟨rfl, InP.grown hk hgr (by omega) (by omega) (by omega) hks (fun i hi => absurd hi (by omega))⟩) (by first | exact Nat.zero_le _ | decide) (by first | exact Nat.zero_le _ | decide) dJx4a65c_add_7a177_64
set_option maxHeartbeats 1000000 in
set_option maxRecDepth 100000 in
theorem c_addkF (l : Launch) (hfl : l.flags = flags0) (G : gW) (M : Mem) (a d s : Nat) (ci : Nat) (r : vw_C) (hc : vwCl[ci]? = some r) (hx : r.1 ∈ gxC) (hk : mK M a = 3) (hd : mR M a 1 = some d) (hs : mI M a 2 = nI s) (hkd : mK M d = 26) (hn : mN M d = s) (hs10 : 10 ≤ s) (hs2 : s ≤ 200) (hel : ∀ i, i < s → ∀ y, mR M d i = some y → mK M y = ci + 1) (k b : Nat) (hks : k ≤ s) (hb_ : mK M b = ci + 1) : CT l yJx4a65c_add_7a177 cJx4a65c_add_7a177 5 none 5 1 300 190 G M [.ref a, .int (nI k), .ref b] (fun v M' => v = none ∧ InP M M' a d s k b) := by
  refine CT.of hfl rfl (Nat.le_of_ble_eq_true rfl) ?_
  intro pp ee ss mm ar bw mt cd C hgX hr hini
  refine V.eLo (lo' := [(0, .ref a), (1, .int (nI k)), (2, .ref b)]) rfl ?_
  refine r_aload_n C 0 dJx4a65c_add_7a177_0 rfl rfl ?_
  refine r_iload_n C 1 dJx4a65c_add_7a177_1 rfl rfl ?_
  refine r_callV C hgX (ci := 2) ml_Jx4a65c_135 im_Jx4a65c_rangeCheckForAdd_d00df se_Jx4a65c_rangeCheckForAdd_d00df rfl rfl hk (c_Jx4a65c_rangeCheckForAdd_d00df l hfl G M a s k hk hs (by omega) hks) rfl (Nat.le_of_ble_eq_true rfl) ⟨Nat.le_of_ble_eq_true rfl, Nat.le_of_ble_eq_true rfl⟩ ⟨Nat.le_of_ble_eq_true rfl, Nat.le_of_ble_eq_true rfl⟩ dJx4a65c_add_7a177_2 rfl ?_
  rintro _ _ ⟨rfl, rfl⟩
  refine r_aload_n C 0 dJx4a65c_add_7a177_5 rfl rfl ?_
  refine r_dup C dJx4a65c_add_7a177_6 rfl ?_
  refine r_getI C fl_Jx4a65c_63 rfl hk dJx4a65c_add_7a177_7 ?_
  refine r_iconst C (v := nI 1) dJx4a65c_add_7a177_10 (by decide) ?_
  refine r_iadd C dJx4a65c_add_7a177_11 ?_
  refine V.topi (fun v1 ev1 => ?_)
  refine r_putI C fl_Jx4a65c_63 hk dJx4a65c_add_7a177_12 ?_
  refine r_aload_n C 0 dJx4a65c_add_7a177_15 rfl rfl ?_
  refine r_getI C fl_Jx4a65c_48 rfl (show mK (wI M a 0 v1) a = 2 + 1 from hk) dJx4a65c_add_7a177_16 ?_
  refine V.ei (y := nI s) ((wI_k (by decide)).trans hs) ?_
  refine r_dup C dJx4a65c_add_7a177_19 rfl ?_
  refine r_istore_n C (lo' := [(3, .int (nI s)), (0, .ref a), (1, .int (nI k)), (2, .ref b)]) dJx4a65c_add_7a177_20 rfl (by decide) rfl ?_
  refine r_aload_n C 1 dJx4a65c_add_7a177_21 rfl rfl ?_
  refine r_getR C (b := d) fl_Jx4a65c_9 rfl (show mK (wI M a 0 v1) a = 2 + 1 from hk) (show mR (wI M a 0 v1) a 1 = some _ from hd) dJx4a65c_add_7a177_22 ?_
  refine r_dup C dJx4a65c_add_7a177_25 rfl ?_
  refine r_astore C (lo' := [(4, .ref d), (3, .int (nI s)), (0, .ref a), (1, .int (nI k)), (2, .ref b)]) dJx4a65c_add_7a177_26 (by decide) rfl ?_
  refine r_alen C (v := nI s) 6 (by decide) (show mK (wI M a 0 v1) d = 26 from hkd) (by rw [show mN _ _ = _ from (show mN (wI M a 0 v1) d = s from hn)]; rfl) dJx4a65c_add_7a177_28 ?_
  refine r_icmp_neN C (t := 38) (by omega) (by omega) dJx4a65c_add_7a177_29 (by decide) (fun c29 => ?_) (fun c29 => ?_)
  · exact absurd rfl c29
  · skip
    refine r_aload_n C 2 dJx4a65c_add_7a177_32 rfl rfl ?_
    refine r_callV C hgX (ci := 2) ml_Jx4a65c_129 im_Jx4a65c_grow_d5877 se_Jx4a65c_grow_d5877 rfl rfl (show mK (wI M a 0 v1) a = 2 + 1 from (show mK (wI M a 0 v1) a = 2 + 1 from hk)) (c_growF l hfl G (wI M a 0 v1) a d s ci r hc hx hk hd ((wI_k (by decide)).trans hs) hkd hn (by omega) hs2 hel) rfl (Nat.le_of_ble_eq_true rfl) ⟨Nat.le_of_ble_eq_true rfl, Nat.le_of_ble_eq_true rfl⟩ ⟨Nat.le_of_ble_eq_true rfl, Nat.le_of_ble_eq_true rfl⟩ dJx4a65c_add_7a177_33 rfl ?_
    rintro _ My2 ⟨q2, rfl, hgr, hgc⟩
    refine V.eSt (st' := [.ref q2]) rfl ?_
    refine r_astore C (lo' := [(4, .ref q2), (3, .int (nI s)), (0, .ref a), (1, .int (nI k)), (2, .ref b)]) dJx4a65c_add_7a177_36 (by decide) rfl ?_
    refine r_aload C 0 dJx4a65c_add_7a177_38 rfl ?_
    refine r_iload_n C 3 dJx4a65c_add_7a177_40 rfl rfl ?_
    refine r_aload C 0 dJx4a65c_add_7a177_41 rfl ?_
    refine r_iload_n C 3 dJx4a65c_add_7a177_43 rfl rfl ?_
    refine r_iconst C (v := nI 1) dJx4a65c_add_7a177_44 (by decide) ?_
    refine r_iaddN C dJx4a65c_add_7a177_45 ?_
    refine r_iload_n C 1 dJx4a65c_add_7a177_46 rfl rfl ?_
    refine r_iload_n C 3 dJx4a65c_add_7a177_47 rfl rfl ?_
    refine r_isubN C (by omega) dJx4a65c_add_7a177_48 ?_
    refine r_cpR C hgX (ci := ci) ac_Jx4a65c_112 (show mK My2 q2 = 26 from hgr.2.1) (show mK My2 q2 = 26 from hgr.2.1) (show mN My2 q2 = (s + max 1 (s / 2 ^ 1)) from hgr.2.2.1) (show mN My2 q2 = (s + max 1 (s / 2 ^ 1)) from hgr.2.2.1) (by omega) (by omega) (by omega) (by omega) hc (hx) (fun i hi y hy => (hgr.2.2.2.2.2 y (by show mK M y ≠ 0; rw [hel (k + i) (by omega) y ((hgc (k + i) (by omega)).symm.trans hy)]; omega)).1.trans (hel (k + i) (by omega) y ((hgc (k + i) (by omega)).symm.trans hy))) (Nat.le_of_ble_eq_true rfl) (Nat.le_of_ble_eq_true rfl) dJx4a65c_add_7a177_49 ?_
    refine r_aload C 0 dJx4a65c_add_7a177_52 rfl ?_
    refine r_iload_n C 3 dJx4a65c_add_7a177_54 rfl rfl ?_
    refine r_aload_n C 4 dJx4a65c_add_7a177_55 rfl rfl ?_
    refine r_aast C hgX (j := 3) (by decide) (show mK (wCpR My2 q2 q2 k (k + 1) (s - k)) q2 = 26 from hgr.2.1) (show mN (wCpR My2 q2 q2 k (k + 1) (s - k)) q2 = (s + max 1 (s / 2 ^ 1)) from hgr.2.2.1) (by omega) (by omega) ((hgr.2.2.2.2.2 b (by show mK M b ≠ 0; rw [hb_]; omega)).1.trans hb_) hc rfl (.inr ⟨rfl, hx⟩) dJx4a65c_add_7a177_56 ?_
    refine r_aload_n C 2 dJx4a65c_add_7a177_57 rfl rfl ?_
    refine r_iload_n C 1 dJx4a65c_add_7a177_58 rfl rfl ?_
    refine r_iconst C (v := nI 1) dJx4a65c_add_7a177_59 (by decide) ?_
    refine r_iaddN C dJx4a65c_add_7a177_60 ?_
    refine r_putI C fl_Jx4a65c_48 (show mK (wR (wCpR My2 q2 q2 k (k + 1) (s - k)) q2 k (some b)) a = 2 + 1 from (hgr.2.2.2.2.2 a (by show mK M a ≠ 0; rw [hk]; decide)).1.trans hk) dJx4a65c_add_7a177_61 ?_
    exact r_vret C hr (⟨rfl, InP.grown hk hgr (by omega) (by omega) (by omega) hks hgc⟩) (by first | exact Nat.zero_le _ | decide) (by first | exact Nat.zero_le _ | decide) dJx4a65c_add_7a177_64
set_option maxHeartbeats 1000000 in
set_option maxRecDepth 100000 in
theorem c_addkR (l : Launch) (hfl : l.flags = flags0) (G : gW) (M : Mem) (a d s n : Nat) (ci : Nat) (r : vw_C) (hc : vwCl[ci]? = some r) (hx : r.1 ∈ gxC) (hk : mK M a = 3) (hd : mR M a 1 = some d) (hs : mI M a 2 = nI s) (hkd : mK M d = 26) (hn : mN M d = n) (hsn : s < n) (h10 : 10 ≤ n) (hn2 : n ≤ 300) (hel : ∀ i, i < s → ∀ y, mR M d i = some y → mK M y = ci + 1) (k b : Nat) (hks : k ≤ s) (hb_ : mK M b = ci + 1) : CT l yJx4a65c_add_7a177 cJx4a65c_add_7a177 5 none 5 1 300 190 G M [.ref a, .int (nI k), .ref b] (fun v M' => v = none ∧ InP M M' a d s k b) := by
  refine CT.of hfl rfl (Nat.le_of_ble_eq_true rfl) ?_
  intro pp ee ss mm ar bw mt cd C hgX hr hini
  refine V.eLo (lo' := [(0, .ref a), (1, .int (nI k)), (2, .ref b)]) rfl ?_
  refine r_aload_n C 0 dJx4a65c_add_7a177_0 rfl rfl ?_
  refine r_iload_n C 1 dJx4a65c_add_7a177_1 rfl rfl ?_
  refine r_callV C hgX (ci := 2) ml_Jx4a65c_135 im_Jx4a65c_rangeCheckForAdd_d00df se_Jx4a65c_rangeCheckForAdd_d00df rfl rfl hk (c_Jx4a65c_rangeCheckForAdd_d00df l hfl G M a s k hk hs (by omega) hks) rfl (Nat.le_of_ble_eq_true rfl) ⟨Nat.le_of_ble_eq_true rfl, Nat.le_of_ble_eq_true rfl⟩ ⟨Nat.le_of_ble_eq_true rfl, Nat.le_of_ble_eq_true rfl⟩ dJx4a65c_add_7a177_2 rfl ?_
  rintro _ _ ⟨rfl, rfl⟩
  refine r_aload_n C 0 dJx4a65c_add_7a177_5 rfl rfl ?_
  refine r_dup C dJx4a65c_add_7a177_6 rfl ?_
  refine r_getI C fl_Jx4a65c_63 rfl hk dJx4a65c_add_7a177_7 ?_
  refine r_iconst C (v := nI 1) dJx4a65c_add_7a177_10 (by decide) ?_
  refine r_iadd C dJx4a65c_add_7a177_11 ?_
  refine V.topi (fun v1 ev1 => ?_)
  refine r_putI C fl_Jx4a65c_63 hk dJx4a65c_add_7a177_12 ?_
  refine r_aload_n C 0 dJx4a65c_add_7a177_15 rfl rfl ?_
  refine r_getI C fl_Jx4a65c_48 rfl (show mK (wI M a 0 v1) a = 2 + 1 from hk) dJx4a65c_add_7a177_16 ?_
  refine V.ei (y := nI s) ((wI_k (by decide)).trans hs) ?_
  refine r_dup C dJx4a65c_add_7a177_19 rfl ?_
  refine r_istore_n C (lo' := [(3, .int (nI s)), (0, .ref a), (1, .int (nI k)), (2, .ref b)]) dJx4a65c_add_7a177_20 rfl (by decide) rfl ?_
  refine r_aload_n C 1 dJx4a65c_add_7a177_21 rfl rfl ?_
  refine r_getR C (b := d) fl_Jx4a65c_9 rfl (show mK (wI M a 0 v1) a = 2 + 1 from hk) (show mR (wI M a 0 v1) a 1 = some _ from hd) dJx4a65c_add_7a177_22 ?_
  refine r_dup C dJx4a65c_add_7a177_25 rfl ?_
  refine r_astore C (lo' := [(4, .ref d), (3, .int (nI s)), (0, .ref a), (1, .int (nI k)), (2, .ref b)]) dJx4a65c_add_7a177_26 (by decide) rfl ?_
  refine r_alen C (v := nI n) 6 (by decide) (show mK (wI M a 0 v1) d = 26 from hkd) (by rw [show mN _ _ = _ from (show mN (wI M a 0 v1) d = n from hn)]; rfl) dJx4a65c_add_7a177_28 ?_
  refine r_icmp_neN C (t := 38) (by omega) (by omega) dJx4a65c_add_7a177_29 (by decide) (fun c29 => ?_) (fun c29 => ?_)
  · skip
    refine r_aload C 0 dJx4a65c_add_7a177_38 rfl ?_
    refine r_iload_n C 3 dJx4a65c_add_7a177_40 rfl rfl ?_
    refine r_aload C 0 dJx4a65c_add_7a177_41 rfl ?_
    refine r_iload_n C 3 dJx4a65c_add_7a177_43 rfl rfl ?_
    refine r_iconst C (v := nI 1) dJx4a65c_add_7a177_44 (by decide) ?_
    refine r_iaddN C dJx4a65c_add_7a177_45 ?_
    refine r_iload_n C 1 dJx4a65c_add_7a177_46 rfl rfl ?_
    refine r_iload_n C 3 dJx4a65c_add_7a177_47 rfl rfl ?_
    refine r_isubN C (by omega) dJx4a65c_add_7a177_48 ?_
    refine r_cpR C hgX (ci := ci) ac_Jx4a65c_112 (show mK (wI M a 0 v1) d = 26 from hkd) (show mK (wI M a 0 v1) d = 26 from hkd) (show mN (wI M a 0 v1) d = n from hn) (show mN (wI M a 0 v1) d = n from hn) (by omega) (by omega) (by omega) (by omega) hc (hx) (fun i hi y hy => hel (k + i) (by omega) y hy) (Nat.le_of_ble_eq_true rfl) (Nat.le_of_ble_eq_true rfl) dJx4a65c_add_7a177_49 ?_
    refine r_aload C 0 dJx4a65c_add_7a177_52 rfl ?_
    refine r_iload_n C 3 dJx4a65c_add_7a177_54 rfl rfl ?_
    refine r_aload_n C 4 dJx4a65c_add_7a177_55 rfl rfl ?_
    refine r_aast C hgX (j := 3) (by decide) (show mK (wCpR (wI M a 0 v1) d d k (k + 1) (s - k)) d = 26 from hkd) (show mN (wCpR (wI M a 0 v1) d d k (k + 1) (s - k)) d = n from hn) (by omega) (by omega) hb_ hc rfl (.inr ⟨rfl, hx⟩) dJx4a65c_add_7a177_56 ?_
    refine r_aload_n C 2 dJx4a65c_add_7a177_57 rfl rfl ?_
    refine r_iload_n C 1 dJx4a65c_add_7a177_58 rfl rfl ?_
    refine r_iconst C (v := nI 1) dJx4a65c_add_7a177_59 (by decide) ?_
    refine r_iaddN C dJx4a65c_add_7a177_60 ?_
    refine r_putI C fl_Jx4a65c_48 (show mK (wR (wCpR (wI M a 0 v1) d d k (k + 1) (s - k)) d k (some b)) a = 2 + 1 from hk) dJx4a65c_add_7a177_61 ?_
    exact r_vret C hr (⟨rfl, InP.room hk hd hkd hn hsn h10 hn2 hks⟩) (by first | exact Nat.zero_le _ | decide) (by first | exact Nat.zero_le _ | decide) dJx4a65c_add_7a177_64
  · exact absurd hsn (by omega)
theorem Ke.imp {G : gW} {post post' : Option Value → Mem → Prop} (h : ∀ v M', post v M' → post' v M') {a : Array Value} {st t : State} {oc : Outcome} (k : Ke G post a st oc t) : Ke G post' a st oc t := by
  obtain ⟨⟨v, M', h1, h2, h3⟩, h4⟩ := k
  exact ⟨⟨v, M', h1, h v M' h2, h3⟩, h4⟩
theorem CT.post {l : Launch} {y : MethodName} {b : ByteArray} {n : Nat} {ret : Option FieldType} {fr mc ms lc : Nat} {G : gW} {M : Mem} {av : List Value} {post post' : Option Value → Mem → Prop} (c : CT l y b n ret fr mc ms lc G M av post) (h : ∀ v M', post v M' → post' v M') : CT l y b n ret fr mc ms lc G M av post' :=
  fun p e h1 h2 h3 s m args below h4 h5 h6 h7 => by
    obtain ⟨n, o, q1, q2, q3, q4⟩ := c p e h1 h2 h3 s m args below h4 h5 h6 h7
    exact ⟨n, o, q1, q2, q3, Ke.imp h q4.1, q4.2⟩
theorem c_addk (l : Launch) (hfl : l.flags = flags0) (G : gW) (M : Mem) (ci a s : Nat) (e : Nat → Nat) (r : vw_C) (hc : vwCl[ci]? = some r) (hx : r.1 ∈ gxC) (hL : LI G M ci a s e) (hs2 : s ≤ 150) (k b : Nat) (hks : k ≤ s) (hb_ : mK M b = ci + 1) :
    CT l yJx4a65c_add_7a177 cJx4a65c_add_7a177 5 none 5 1 300 190 G M [.ref a, .int (nI k), .ref b] (fun v M' => v = none ∧ ∃ d, mR M a 1 = some d ∧ LI G M' ci a (s + 1) (inE e k b) ∧ LF M M' a d) := by
  obtain ⟨d, hd, -⟩ := id hL.2.2.2
  have fin : ∀ (v : Option Value) (M' : Mem), (v = none ∧ InP M M' a d s k b) → (v = none ∧ ∃ d, mR M a 1 = some d ∧ LI G M' ci a (s + 1) (inE e k b) ∧ LF M M' a d) := fun v M' ⟨h1, h2⟩ => ⟨h1, d, hd, hL.ins hd hb_ hks h2⟩
  rcases hL.hcase hd with ⟨h1, h2⟩ | ⟨h1, h2, h10, h3, h4⟩
  · subst h2
    exact CT.post (c_addkE l hfl G M a (gS G 0) s ci r hc hx hL.1 hd hL.2.1 h1 rfl k b hks hb_) fin
  · by_cases e : s < mN M d
    · exact CT.post (c_addkR l hfl G M a d s _ ci r hc hx hL.1 hd hL.2.1 h1 rfl e h10 h3 h4 k b hks hb_) fin
    · exact CT.post (c_addkF l hfl G M a d s ci r hc hx hL.1 hd hL.2.1 h1 (by omega) (by omega) (by omega) h4 k b hks hb_) fin

