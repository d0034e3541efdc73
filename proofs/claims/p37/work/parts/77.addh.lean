set_option maxHeartbeats 4000000 in
set_option maxRecDepth 100000 in
theorem c_addhE (l : Launch) (hfl : l.flags = flags0) (G : gW) (M : Mem) (a d s : Nat) (ci : Nat) (r : vw_C) (hc : vwCl[ci]? = some r) (hx : r.1 ∈ gxC) (hk : mK M a = 3) (hd : mR M a 1 = some (gS G 0)) (hs : mI M a 2 = nI s) (hs0 : s = 0) (hdd : d = gS G 0) (b : Nat) (hb_ : mK M b = ci + 1) : CT l yJx4a65c_add_72be8 cJx4a65c_add_72be8 4 none 5 1 300 185 G M [.ref a, .ref b, .ref (gS G 0), .int (nI s)] (fun v M' => v = none ∧ AdP M M' a d s b) := by
  refine CT.of hfl rfl (Nat.le_of_ble_eq_true rfl) ?_
  intro pp ee ss mm ar bw mt cd C hgX hr hini
  refine V.eLo (lo' := [(0, .ref a), (1, .ref b), (2, .ref (gS G 0)), (3, .int (nI s))]) rfl ?_
  refine r_iload_n C 3 dJx4a65c_add_72be8_0 rfl rfl ?_
  refine r_aload_n C 2 dJx4a65c_add_72be8_1 rfl rfl ?_
  refine r_alen0 C hgX dJx4a65c_add_72be8_2 ?_
  refine r_icmp_neN C (t := 11) (by omega) (by omega) dJx4a65c_add_72be8_3 (by decide) (fun c3 => ?_) (fun c3 => ?_)
  · exact absurd hs0 (by omega)
  · skip
    refine r_aload_n C 0 dJx4a65c_add_72be8_6 rfl rfl ?_
    refine r_callV C hgX (ci := 2) ml_Jx4a65c_129 im_Jx4a65c_grow_d5877 se_Jx4a65c_grow_d5877 rfl rfl hk (c_growE l hfl G M a s hk hd hs hs0) rfl (Nat.le_of_ble_eq_true rfl) ⟨Nat.le_of_ble_eq_true rfl, Nat.le_of_ble_eq_true rfl⟩ ⟨Nat.le_of_ble_eq_true rfl, Nat.le_of_ble_eq_true rfl⟩ dJx4a65c_add_72be8_7 rfl ?_
    rintro _ My1 ⟨q1, rfl, hgr⟩
    refine V.eSt (st' := [.ref q1]) rfl ?_
    refine r_astore_n C (lo' := [(2, .ref q1), (0, .ref a), (1, .ref b), (3, .int (nI s))]) dJx4a65c_add_72be8_10 rfl (by decide) rfl ?_
    refine r_aload_n C 0 dJx4a65c_add_72be8_11 rfl rfl ?_
    refine r_iload_n C 3 dJx4a65c_add_72be8_12 rfl rfl ?_
    refine r_aload_n C 2 dJx4a65c_add_72be8_13 rfl rfl ?_
    refine r_aast C hgX (j := 3) (by decide) hgr.2.1 hgr.2.2.1 (by omega) (by omega) ((hgr.2.2.2.2.2 b (by rw [hb_]; omega)).1.trans hb_) hc rfl (.inr ⟨rfl, hx⟩) dJx4a65c_add_72be8_14 ?_
    refine r_aload_n C 1 dJx4a65c_add_72be8_15 rfl rfl ?_
    refine r_iload_n C 3 dJx4a65c_add_72be8_16 rfl rfl ?_
    refine r_iconst C (v := nI 1) dJx4a65c_add_72be8_17 (by decide) ?_
    refine r_iaddN C dJx4a65c_add_72be8_18 ?_
    refine r_putI C fl_Jx4a65c_48 (show mK (wR My1 q1 s (some b)) a = 2 + 1 from (hgr.2.2.2.2.2 a (by rw [hk]; decide)).1.trans hk) dJx4a65c_add_72be8_19 ?_
    exact r_vret C hr (⟨rfl, by rw [hdd]; exact AdP.grown hk hgr (by omega) (by omega) (by omega) (fun i hi => absurd hi (by omega))⟩) (by first | exact Nat.zero_le _ | decide) (by first | exact Nat.zero_le _ | decide) dJx4a65c_add_72be8_22
set_option maxHeartbeats 4000000 in
set_option maxRecDepth 100000 in
theorem c_addhF (l : Launch) (hfl : l.flags = flags0) (G : gW) (M : Mem) (a d s : Nat) (ci : Nat) (r : vw_C) (hc : vwCl[ci]? = some r) (hx : r.1 ∈ gxC) (hk : mK M a = 3) (hd : mR M a 1 = some d) (hs : mI M a 2 = nI s) (hkd : mK M d = 26) (hn : mN M d = s) (hs10 : 10 ≤ s) (hs2 : s ≤ 200) (hel : ∀ i, i < s → ∀ y, mR M d i = some y → mK M y = ci + 1) (b : Nat) (hb_ : mK M b = ci + 1) : CT l yJx4a65c_add_72be8 cJx4a65c_add_72be8 4 none 5 1 300 185 G M [.ref a, .ref b, .ref d, .int (nI s)] (fun v M' => v = none ∧ AdP M M' a d s b) := by
  refine CT.of hfl rfl (Nat.le_of_ble_eq_true rfl) ?_
  intro pp ee ss mm ar bw mt cd C hgX hr hini
  refine V.eLo (lo' := [(0, .ref a), (1, .ref b), (2, .ref d), (3, .int (nI s))]) rfl ?_
  refine r_iload_n C 3 dJx4a65c_add_72be8_0 rfl rfl ?_
  refine r_aload_n C 2 dJx4a65c_add_72be8_1 rfl rfl ?_
  refine r_alen C (v := nI s) 6 (by decide) (show mK M d = 26 from hkd) (by rw [show mN _ _ = _ from (show mN M d = _ from hn)]; rfl) dJx4a65c_add_72be8_2 ?_
  refine r_icmp_neN C (t := 11) (by omega) (by omega) dJx4a65c_add_72be8_3 (by decide) (fun c3 => ?_) (fun c3 => ?_)
  · exact absurd rfl c3
  · skip
    refine r_aload_n C 0 dJx4a65c_add_72be8_6 rfl rfl ?_
    refine r_callV C hgX (ci := 2) ml_Jx4a65c_129 im_Jx4a65c_grow_d5877 se_Jx4a65c_grow_d5877 rfl rfl hk (c_growF l hfl G M a d s ci r hc hx hk hd hs hkd hn (by omega) hs2 hel) rfl (Nat.le_of_ble_eq_true rfl) ⟨Nat.le_of_ble_eq_true rfl, Nat.le_of_ble_eq_true rfl⟩ ⟨Nat.le_of_ble_eq_true rfl, Nat.le_of_ble_eq_true rfl⟩ dJx4a65c_add_72be8_7 rfl ?_
    rintro _ My1 ⟨q1, rfl, hgr, hgc⟩
    refine V.eSt (st' := [.ref q1]) rfl ?_
    refine r_astore_n C (lo' := [(2, .ref q1), (0, .ref a), (1, .ref b), (3, .int (nI s))]) dJx4a65c_add_72be8_10 rfl (by decide) rfl ?_
    refine r_aload_n C 0 dJx4a65c_add_72be8_11 rfl rfl ?_
    refine r_iload_n C 3 dJx4a65c_add_72be8_12 rfl rfl ?_
    refine r_aload_n C 2 dJx4a65c_add_72be8_13 rfl rfl ?_
    refine r_aast C hgX (j := 3) (by decide) hgr.2.1 hgr.2.2.1 (by omega) (by omega) ((hgr.2.2.2.2.2 b (by rw [hb_]; omega)).1.trans hb_) hc rfl (.inr ⟨rfl, hx⟩) dJx4a65c_add_72be8_14 ?_
    refine r_aload_n C 1 dJx4a65c_add_72be8_15 rfl rfl ?_
    refine r_iload_n C 3 dJx4a65c_add_72be8_16 rfl rfl ?_
    refine r_iconst C (v := nI 1) dJx4a65c_add_72be8_17 (by decide) ?_
    refine r_iaddN C dJx4a65c_add_72be8_18 ?_
    refine r_putI C fl_Jx4a65c_48 (show mK (wR My1 q1 s (some b)) a = 2 + 1 from (hgr.2.2.2.2.2 a (by rw [hk]; decide)).1.trans hk) dJx4a65c_add_72be8_19 ?_
    exact r_vret C hr (⟨rfl, AdP.grown hk hgr (by omega) (by omega) (by omega) hgc⟩) (by first | exact Nat.zero_le _ | decide) (by first | exact Nat.zero_le _ | decide) dJx4a65c_add_72be8_22
set_option maxHeartbeats 4000000 in
set_option maxRecDepth 100000 in
theorem c_addhR (l : Launch) (hfl : l.flags = flags0) (G : gW) (M : Mem) (a d s n : Nat) (ci : Nat) (r : vw_C) (hc : vwCl[ci]? = some r) (hx : r.1 ∈ gxC) (hk : mK M a = 3) (hd : mR M a 1 = some d) (hs : mI M a 2 = nI s) (hkd : mK M d = 26) (hn : mN M d = n) (hsn : s < n) (h10 : 10 ≤ n) (hn2 : n ≤ 300) (b : Nat) (hb_ : mK M b = ci + 1) : CT l yJx4a65c_add_72be8 cJx4a65c_add_72be8 4 none 5 1 300 185 G M [.ref a, .ref b, .ref d, .int (nI s)] (fun v M' => v = none ∧ AdP M M' a d s b) := by
  refine CT.of hfl rfl (Nat.le_of_ble_eq_true rfl) ?_
  intro pp ee ss mm ar bw mt cd C hgX hr hini
  refine V.eLo (lo' := [(0, .ref a), (1, .ref b), (2, .ref d), (3, .int (nI s))]) rfl ?_
  refine r_iload_n C 3 dJx4a65c_add_72be8_0 rfl rfl ?_
  refine r_aload_n C 2 dJx4a65c_add_72be8_1 rfl rfl ?_
  refine r_alen C (v := nI n) 6 (by decide) (show mK M d = 26 from hkd) (by rw [show mN _ _ = _ from (show mN M d = _ from hn)]; rfl) dJx4a65c_add_72be8_2 ?_
  refine r_icmp_neN C (t := 11) (by omega) (by omega) dJx4a65c_add_72be8_3 (by decide) (fun c3 => ?_) (fun c3 => ?_)
  · skip
    refine r_aload_n C 2 dJx4a65c_add_72be8_11 rfl rfl ?_
    refine r_iload_n C 3 dJx4a65c_add_72be8_12 rfl rfl ?_
    refine r_aload_n C 1 dJx4a65c_add_72be8_13 rfl rfl ?_
    refine r_aast C hgX (j := 3) (by decide) (show mK M d = 26 from hkd) (show mN M d = _ from hn) (by omega) (by omega) hb_ hc rfl (.inr ⟨rfl, hx⟩) dJx4a65c_add_72be8_14 ?_
    refine r_aload_n C 0 dJx4a65c_add_72be8_15 rfl rfl ?_
    refine r_iload_n C 3 dJx4a65c_add_72be8_16 rfl rfl ?_
    refine r_iconst C (v := nI 1) dJx4a65c_add_72be8_17 (by decide) ?_
    refine r_iaddN C dJx4a65c_add_72be8_18 ?_
    refine r_putI C fl_Jx4a65c_48 (show mK (wR M d s (some b)) a = 2 + 1 from hk) dJx4a65c_add_72be8_19 ?_
    exact r_vret C hr (⟨rfl, AdP.room hk hd hkd hn hsn h10 hn2⟩) (by first | exact Nat.zero_le _ | decide) (by first | exact Nat.zero_le _ | decide) dJx4a65c_add_72be8_22
  · exact absurd hsn (by omega)

