/-! THE CLASS: constructors -/
def tbA : BT := ([3], [0], [])
set_option maxHeartbeats 1000000 in
set_option maxRecDepth 100000 in
theorem c_X10_init24 (l : Launch) (hfl : l.flags = flags0) (G : gW) (M : Mem) (M0 : Mem) (q : Nat) (hgq : gB G ≤ q) (h : NB (tbSt 24) q 1 [] [] (gS G 0) zI zL M0 M) : CT l yX10_init cX10_init 2 none 1 2 48 30 G M [.ref q, .int (nI 24)] (fun v M' => v = none ∧ NB (tbSt 24) q 3 [(0, 1, 2), (0, 0, 1)] [] (gS G 0) zI zL M0 M') := by
  refine CT.of hfl rfl (Nat.le_of_ble_eq_true rfl) ?_
  intro pp ee ss mm ar bw mt cd C hgX hr hini
  have hN := h
  refine V.eLo (lo' := [(0, .ref q), (1, .int (nI 24))]) rfl ?_
  refine r_aload_n C 0 dX10_init_0 rfl rfl ?_
  refine r_objInit C oi_X10 oi_im oi_cd dX10_init_1 (Nat.le_of_ble_eq_true rfl) (Nat.le_of_ble_eq_true rfl) ?_
  refine r_aload_n C 0 dX10_init_4 rfl rfl ?_
  refine r_iload_n C 1 dX10_init_5 rfl rfl ?_
  refine r_iconst C (v := nI 0) dX10_init_6 (by decide) ?_
  refine r_maxIN C km_X10_7 (by omega) (by omega) (Nat.le_of_ble_eq_true rfl) (Nat.le_of_ble_eq_true rfl) (by first | exact Nat.zero_le _ | decide) (by first | exact Nat.zero_le _ | decide) dX10_init_7 ?_
  refine V.ei (y := nI 24) (rfl) ?_
  refine r_newarr C (q := q + 1) 0 (by decide) rfl ac_int (by decide) ((by omega)) (hN.2.1 _ (Nat.le_refl _)) (hN.2.2.1) (Nat.le_of_ble_eq_true rfl) (Nat.le_of_ble_eq_true rfl) dX10_init_10 ?_
  have hN : NB (tbSt 24) q 2 [] [] (gS G 0) zI zL M0 (wMk M (q + 1) 20 24) := hN.new 20 24 rfl ⟨by first | rfl | exact up2_row _ _ (by decide), rfl⟩
  generalize (wMk M (q + 1) 20 24) = Mc1 at hN ⊢
  refine r_putRF C fl_X10_13 (hini rfl) (fun r h => by cases h; rfl) rfl rfl rfl (show mK Mc1 q = 13 from (hN.1 0 (by decide)).1) dX10_init_12 ?_
  have hN : NB (tbSt 24) q 2 [(0, 0, 1)] [] (gS G 0) zI zL M0 (wR Mc1 q 0 (some (q + 1))) := hN.ref 0 0 1 rfl
  generalize (wR Mc1 q 0 (some (q + 1))) = Mc3 at hN ⊢
  refine r_aload_n C 0 dX10_init_15 rfl rfl ?_
  refine r_iload_n C 1 dX10_init_16 rfl rfl ?_
  refine r_iconst C (v := nI 0) dX10_init_17 (by decide) ?_
  refine r_maxIN C km_X10_7 (by omega) (by omega) (Nat.le_of_ble_eq_true rfl) (Nat.le_of_ble_eq_true rfl) (by first | exact Nat.zero_le _ | decide) (by first | exact Nat.zero_le _ | decide) dX10_init_18 ?_
  refine V.ei (y := nI 24) (rfl) ?_
  refine r_newarr C (q := q + 2) 2 (by decide) rfl ac_boolean (by decide) ((by omega)) (hN.2.1 _ (Nat.le_refl _)) (hN.2.2.1) (Nat.le_of_ble_eq_true rfl) (Nat.le_of_ble_eq_true rfl) dX10_init_21 ?_
  have hN : NB (tbSt 24) q 3 [(0, 0, 1)] [] (gS G 0) zI zL M0 (wMk Mc3 (q + 2) 22 24) := hN.new 22 24 rfl ⟨by first | rfl | exact up2_row _ _ (by decide), rfl⟩
  generalize (wMk Mc3 (q + 2) 22 24) = Mc4 at hN ⊢
  refine r_putRF C fl_X10_19 (hini rfl) (fun r h => by cases h; rfl) rfl rfl rfl (show mK Mc4 q = 13 from (hN.1 0 (by decide)).1) dX10_init_23 ?_
  have hN : NB (tbSt 24) q 3 [(0, 1, 2), (0, 0, 1)] [] (gS G 0) zI zL M0 (wR Mc4 q 1 (some (q + 2))) := hN.ref 0 1 2 rfl
  generalize (wR Mc4 q 1 (some (q + 2))) = Mc6 at hN ⊢
  exact r_vret C hr (⟨rfl, hN⟩) (by first | exact Nat.zero_le _ | decide) (by first | exact Nat.zero_le _ | decide) dX10_init_26
set_option maxHeartbeats 1000000 in
set_option maxRecDepth 100000 in
theorem c_X10_init720 (l : Launch) (hfl : l.flags = flags0) (G : gW) (M : Mem) (M0 : Mem) (q : Nat) (hgq : gB G ≤ q) (h : NB (tbSt 720) q 1 [] [] (gS G 0) zI zL M0 M) : CT l yX10_init cX10_init 2 none 1 2 1440 30 G M [.ref q, .int (nI 720)] (fun v M' => v = none ∧ NB (tbSt 720) q 3 [(0, 1, 2), (0, 0, 1)] [] (gS G 0) zI zL M0 M') := by
  refine CT.of hfl rfl (Nat.le_of_ble_eq_true rfl) ?_
  intro pp ee ss mm ar bw mt cd C hgX hr hini
  have hN := h
  refine V.eLo (lo' := [(0, .ref q), (1, .int (nI 720))]) rfl ?_
  refine r_aload_n C 0 dX10_init_0 rfl rfl ?_
  refine r_objInit C oi_X10 oi_im oi_cd dX10_init_1 (Nat.le_of_ble_eq_true rfl) (Nat.le_of_ble_eq_true rfl) ?_
  refine r_aload_n C 0 dX10_init_4 rfl rfl ?_
  refine r_iload_n C 1 dX10_init_5 rfl rfl ?_
  refine r_iconst C (v := nI 0) dX10_init_6 (by decide) ?_
  refine r_maxIN C km_X10_7 (by omega) (by omega) (Nat.le_of_ble_eq_true rfl) (Nat.le_of_ble_eq_true rfl) (by first | exact Nat.zero_le _ | decide) (by first | exact Nat.zero_le _ | decide) dX10_init_7 ?_
  refine V.ei (y := nI 720) (rfl) ?_
  refine r_newarr C (q := q + 1) 0 (by decide) rfl ac_int (by decide) ((by omega)) (hN.2.1 _ (Nat.le_refl _)) (hN.2.2.1) (Nat.le_of_ble_eq_true rfl) (Nat.le_of_ble_eq_true rfl) dX10_init_10 ?_
  have hN : NB (tbSt 720) q 2 [] [] (gS G 0) zI zL M0 (wMk M (q + 1) 20 720) := hN.new 20 720 rfl ⟨by first | rfl | exact up2_row _ _ (by decide), rfl⟩
  generalize (wMk M (q + 1) 20 720) = Mc1 at hN ⊢
  refine r_putRF C fl_X10_13 (hini rfl) (fun r h => by cases h; rfl) rfl rfl rfl (show mK Mc1 q = 13 from (hN.1 0 (by decide)).1) dX10_init_12 ?_
  have hN : NB (tbSt 720) q 2 [(0, 0, 1)] [] (gS G 0) zI zL M0 (wR Mc1 q 0 (some (q + 1))) := hN.ref 0 0 1 rfl
  generalize (wR Mc1 q 0 (some (q + 1))) = Mc3 at hN ⊢
  refine r_aload_n C 0 dX10_init_15 rfl rfl ?_
  refine r_iload_n C 1 dX10_init_16 rfl rfl ?_
  refine r_iconst C (v := nI 0) dX10_init_17 (by decide) ?_
  refine r_maxIN C km_X10_7 (by omega) (by omega) (Nat.le_of_ble_eq_true rfl) (Nat.le_of_ble_eq_true rfl) (by first | exact Nat.zero_le _ | decide) (by first | exact Nat.zero_le _ | decide) dX10_init_18 ?_
  refine V.ei (y := nI 720) (rfl) ?_
  refine r_newarr C (q := q + 2) 2 (by decide) rfl ac_boolean (by decide) ((by omega)) (hN.2.1 _ (Nat.le_refl _)) (hN.2.2.1) (Nat.le_of_ble_eq_true rfl) (Nat.le_of_ble_eq_true rfl) dX10_init_21 ?_
  have hN : NB (tbSt 720) q 3 [(0, 0, 1)] [] (gS G 0) zI zL M0 (wMk Mc3 (q + 2) 22 720) := hN.new 22 720 rfl ⟨by first | rfl | exact up2_row _ _ (by decide), rfl⟩
  generalize (wMk Mc3 (q + 2) 22 720) = Mc4 at hN ⊢
  refine r_putRF C fl_X10_19 (hini rfl) (fun r h => by cases h; rfl) rfl rfl rfl (show mK Mc4 q = 13 from (hN.1 0 (by decide)).1) dX10_init_23 ?_
  have hN : NB (tbSt 720) q 3 [(0, 1, 2), (0, 0, 1)] [] (gS G 0) zI zL M0 (wR Mc4 q 1 (some (q + 2))) := hN.ref 0 1 2 rfl
  generalize (wR Mc4 q 1 (some (q + 2))) = Mc6 at hN ⊢
  exact r_vret C hr (⟨rfl, hN⟩) (by first | exact Nat.zero_le _ | decide) (by first | exact Nat.zero_le _ | decide) dX10_init_26
set_option maxHeartbeats 1000000 in
set_option maxRecDepth 100000 in
theorem c_X3_init (l : Launch) (hfl : l.flags = flags0) (G : gW) (M : Mem) (M0 : Mem) (q : Nat) (hgq : gB G ≤ q) (h : NB tbCo q 1 [] [] (gS G 0) zI zL M0 M) (a1 a2 a3 a4 : Int32) (b5 : Bool) (a6 : Int32) : CT l yX3_init cX3_init 7 none 2 9 2314 51 G M [.ref q, .int a1, .int a2, .int a3, .int a4, .int (bI b5), .int a6] (fun v M' => v = none ∧ NB tbCo q 10 [(0, 14, 9), (0, 13, 8), (0, 12, 7), (0, 9, 6), (0, 8, 5), (0, 7, 4), (0, 6, 1), (1, 1, 3), (1, 0, 2)] [] (gS G 0) (up2 (up2 (up2 (up2 (up2 (up2 (up2 zI 0 11 (nI 1)) 0 0 a1) 0 1 a2) 0 2 a3) 0 3 a4) 0 4 (bI b5)) 0 5 a6) zL M0 M') := by
  refine CT.of hfl rfl (Nat.le_of_ble_eq_true rfl) ?_
  intro pp ee ss mm ar bw mt cd C hgX hr hini
  have hN := h
  refine V.eLo (lo' := [(0, .ref q), (1, .int a1), (2, .int a2), (3, .int a3), (4, .int a4), (5, .int (bI b5)), (6, .int a6)]) rfl ?_
  refine r_aload_n C 0 dX3_init_0 rfl rfl ?_
  refine r_objInit C oi_X3 oi_im oi_cd dX3_init_1 (Nat.le_of_ble_eq_true rfl) (Nat.le_of_ble_eq_true rfl) ?_
  refine r_aload_n C 0 dX3_init_4 rfl rfl ?_
  refine r_new C (q := q + 1) nl_X3_9 ((by omega)) (hN.2.1 _ (Nat.le_refl _)) (hN.2.2.1) (Nat.le_of_ble_eq_true rfl) (Nat.le_of_ble_eq_true rfl) dX3_init_5 ?_
  have hC := NB.cell (T := (tbSt 720)) (e0 := gS G 0) (q := q + 1) hN.2.1 (κ := 13) ⟨rfl, rfl⟩
  generalize (wMk M (q + 1) 13 0) = Mc1 at hC ⊢
  refine r_dup C dX3_init_8 rfl ?_
  refine r_sipush C (v := nI 720) dX3_init_9 (by decide) ?_
  refine r_callI C hgX ml_X3_11 im_X10_init rfl (c_X10_init720 l hfl G Mc1 M (q + 1) (by omega) hC) rfl (Nat.le_of_ble_eq_true rfl) ⟨Nat.le_of_ble_eq_true rfl, Nat.le_of_ble_eq_true rfl⟩ ⟨Nat.le_of_ble_eq_true rfl, Nat.le_of_ble_eq_true rfl⟩ dX3_init_12 rfl ?_
  rintro _ My2 ⟨rfl, hS⟩
  have hN := hN.sub hS rfl
  have hN := hN.v (VI' := zI) (VL' := zL) (fun o_ _ => congrFun (gl0I (fun _ _ => rfl)) o_) (fun o_ _ => congrFun (gl0L (fun _ _ => rfl)) o_)
  have hN : NB tbCo q 4 [(1, 1, 3), (1, 0, 2)] [] (gS G 0) zI zL M0 My2 := hN
  refine r_putRF C fl_X3_14 (hini rfl) (fun r h => by cases h; rfl) rfl rfl rfl (show mK My2 q = 6 from (hN.1 0 (by decide)).1) dX3_init_15 ?_
  have hN : NB tbCo q 4 [(0, 6, 1), (1, 1, 3), (1, 0, 2)] [] (gS G 0) zI zL M0 (wR My2 q 6 (some (q + 1))) := hN.ref 0 6 1 rfl
  generalize (wR My2 q 6 (some (q + 1))) = Mc4 at hN ⊢
  refine r_aload_n C 0 dX3_init_18 rfl rfl ?_
  refine r_sipush C (v := nI 720) dX3_init_19 (by decide) ?_
  refine r_newarr C (q := q + 4) 0 (by decide) rfl ac_int (by decide) ((by omega)) (hN.2.1 _ (Nat.le_refl _)) (hN.2.2.1) (Nat.le_of_ble_eq_true rfl) (Nat.le_of_ble_eq_true rfl) dX3_init_22 ?_
  have hN : NB tbCo q 5 [(0, 6, 1), (1, 1, 3), (1, 0, 2)] [] (gS G 0) zI zL M0 (wMk Mc4 (q + 4) 20 720) := hN.new 20 720 rfl ⟨by first | rfl | exact up2_row _ _ (by decide), rfl⟩
  generalize (wMk Mc4 (q + 4) 20 720) = Mc5 at hN ⊢
  refine r_putRF C fl_X3_20 (hini rfl) (fun r h => by cases h; rfl) rfl rfl rfl (show mK Mc5 q = 6 from (hN.1 0 (by decide)).1) dX3_init_24 ?_
  have hN : NB tbCo q 5 [(0, 7, 4), (0, 6, 1), (1, 1, 3), (1, 0, 2)] [] (gS G 0) zI zL M0 (wR Mc5 q 7 (some (q + 4))) := hN.ref 0 7 4 rfl
  generalize (wR Mc5 q 7 (some (q + 4))) = Mc7 at hN ⊢
  refine r_aload_n C 0 dX3_init_27 rfl rfl ?_
  refine r_bipush C (v := nI 40) dX3_init_28 (by decide) ?_
  refine r_newarr C (q := q + 5) 0 (by decide) rfl ac_int (by decide) ((by omega)) (hN.2.1 _ (Nat.le_refl _)) (hN.2.2.1) (Nat.le_of_ble_eq_true rfl) (Nat.le_of_ble_eq_true rfl) dX3_init_30 ?_
  have hN : NB tbCo q 6 [(0, 7, 4), (0, 6, 1), (1, 1, 3), (1, 0, 2)] [] (gS G 0) zI zL M0 (wMk Mc7 (q + 5) 20 40) := hN.new 20 40 rfl ⟨by first | rfl | exact up2_row _ _ (by decide), rfl⟩
  generalize (wMk Mc7 (q + 5) 20 40) = Mc8 at hN ⊢
  refine r_putRF C fl_X3_24 (hini rfl) (fun r h => by cases h; rfl) rfl rfl rfl (show mK Mc8 q = 6 from (hN.1 0 (by decide)).1) dX3_init_32 ?_
  have hN : NB tbCo q 6 [(0, 8, 5), (0, 7, 4), (0, 6, 1), (1, 1, 3), (1, 0, 2)] [] (gS G 0) zI zL M0 (wR Mc8 q 8 (some (q + 5))) := hN.ref 0 8 5 rfl
  generalize (wR Mc8 q 8 (some (q + 5))) = Mc10 at hN ⊢
  refine r_aload_n C 0 dX3_init_35 rfl rfl ?_
  refine r_bipush C (v := nI 40) dX3_init_36 (by decide) ?_
  refine r_newarr C (q := q + 6) 0 (by decide) rfl ac_int (by decide) ((by omega)) (hN.2.1 _ (Nat.le_refl _)) (hN.2.2.1) (Nat.le_of_ble_eq_true rfl) (Nat.le_of_ble_eq_true rfl) dX3_init_38 ?_
  have hN : NB tbCo q 7 [(0, 8, 5), (0, 7, 4), (0, 6, 1), (1, 1, 3), (1, 0, 2)] [] (gS G 0) zI zL M0 (wMk Mc10 (q + 6) 20 40) := hN.new 20 40 rfl ⟨by first | rfl | exact up2_row _ _ (by decide), rfl⟩
  generalize (wMk Mc10 (q + 6) 20 40) = Mc11 at hN ⊢
  refine r_putRF C fl_X3_27 (hini rfl) (fun r h => by cases h; rfl) rfl rfl rfl (show mK Mc11 q = 6 from (hN.1 0 (by decide)).1) dX3_init_40 ?_
  have hN : NB tbCo q 7 [(0, 9, 6), (0, 8, 5), (0, 7, 4), (0, 6, 1), (1, 1, 3), (1, 0, 2)] [] (gS G 0) zI zL M0 (wR Mc11 q 9 (some (q + 6))) := hN.ref 0 9 6 rfl
  generalize (wR Mc11 q 9 (some (q + 6))) = Mc13 at hN ⊢
  refine r_aload_n C 0 dX3_init_43 rfl rfl ?_
  refine r_iconst C (v := nI 1) dX3_init_44 (by decide) ?_
  refine r_putZ C fl_X3_30 (by decide) (show mK Mc13 q = 6 from (hN.1 0 (by decide)).1) dX3_init_45 ?_
  have hN : NB tbCo q 7 [(0, 9, 6), (0, 8, 5), (0, 7, 4), (0, 6, 1), (1, 1, 3), (1, 0, 2)] [] (gS G 0) (up2 zI 0 11 (nI 1)) zL M0 (wI Mc13 q 11 (nI 1)) := hN.wi 0 11 (nI 1) (by decide)
  generalize (wI Mc13 q 11 (nI 1)) = Mc14 at hN ⊢
  refine r_aload_n C 0 dX3_init_48 rfl rfl ?_
  refine r_bipush C (v := nI 24) dX3_init_49 (by decide) ?_
  refine r_newarr C (q := q + 7) 1 (by decide) rfl ac_long (by decide) ((by omega)) (hN.2.1 _ (Nat.le_refl _)) (hN.2.2.1) (Nat.le_of_ble_eq_true rfl) (Nat.le_of_ble_eq_true rfl) dX3_init_51 ?_
  have hN : NB tbCo q 8 [(0, 9, 6), (0, 8, 5), (0, 7, 4), (0, 6, 1), (1, 1, 3), (1, 0, 2)] [] (gS G 0) (up2 zI 0 11 (nI 1)) zL M0 (wMk Mc14 (q + 7) 21 24) := hN.new 21 24 rfl ⟨by first | rfl | exact up2_row _ _ (by decide), rfl⟩
  generalize (wMk Mc14 (q + 7) 21 24) = Mc15 at hN ⊢
  refine r_putRF C fl_X3_34 (hini rfl) (fun r h => by cases h; rfl) rfl rfl rfl (show mK Mc15 q = 6 from (hN.1 0 (by decide)).1) dX3_init_53 ?_
  have hN : NB tbCo q 8 [(0, 12, 7), (0, 9, 6), (0, 8, 5), (0, 7, 4), (0, 6, 1), (1, 1, 3), (1, 0, 2)] [] (gS G 0) (up2 zI 0 11 (nI 1)) zL M0 (wR Mc15 q 12 (some (q + 7))) := hN.ref 0 12 7 rfl
  generalize (wR Mc15 q 12 (some (q + 7))) = Mc17 at hN ⊢
  refine r_aload_n C 0 dX3_init_56 rfl rfl ?_
  refine r_bipush C (v := nI 24) dX3_init_57 (by decide) ?_
  refine r_newarr C (q := q + 8) 0 (by decide) rfl ac_int (by decide) ((by omega)) (hN.2.1 _ (Nat.le_refl _)) (hN.2.2.1) (Nat.le_of_ble_eq_true rfl) (Nat.le_of_ble_eq_true rfl) dX3_init_59 ?_
  have hN : NB tbCo q 9 [(0, 12, 7), (0, 9, 6), (0, 8, 5), (0, 7, 4), (0, 6, 1), (1, 1, 3), (1, 0, 2)] [] (gS G 0) (up2 zI 0 11 (nI 1)) zL M0 (wMk Mc17 (q + 8) 20 24) := hN.new 20 24 rfl ⟨by first | rfl | exact up2_row _ _ (by decide), rfl⟩
  generalize (wMk Mc17 (q + 8) 20 24) = Mc18 at hN ⊢
  refine r_putRF C fl_X3_38 (hini rfl) (fun r h => by cases h; rfl) rfl rfl rfl (show mK Mc18 q = 6 from (hN.1 0 (by decide)).1) dX3_init_61 ?_
  have hN : NB tbCo q 9 [(0, 13, 8), (0, 12, 7), (0, 9, 6), (0, 8, 5), (0, 7, 4), (0, 6, 1), (1, 1, 3), (1, 0, 2)] [] (gS G 0) (up2 zI 0 11 (nI 1)) zL M0 (wR Mc18 q 13 (some (q + 8))) := hN.ref 0 13 8 rfl
  generalize (wR Mc18 q 13 (some (q + 8))) = Mc20 at hN ⊢
  refine r_aload_n C 0 dX3_init_64 rfl rfl ?_
  refine r_bipush C (v := nI 24) dX3_init_65 (by decide) ?_
  refine r_newarr C (q := q + 9) 1 (by decide) rfl ac_long (by decide) ((by omega)) (hN.2.1 _ (Nat.le_refl _)) (hN.2.2.1) (Nat.le_of_ble_eq_true rfl) (Nat.le_of_ble_eq_true rfl) dX3_init_67 ?_
  have hN : NB tbCo q 10 [(0, 13, 8), (0, 12, 7), (0, 9, 6), (0, 8, 5), (0, 7, 4), (0, 6, 1), (1, 1, 3), (1, 0, 2)] [] (gS G 0) (up2 zI 0 11 (nI 1)) zL M0 (wMk Mc20 (q + 9) 21 24) := hN.new 21 24 rfl ⟨by first | rfl | exact up2_row _ _ (by decide), rfl⟩
  generalize (wMk Mc20 (q + 9) 21 24) = Mc21 at hN ⊢
  refine r_putRF C fl_X3_41 (hini rfl) (fun r h => by cases h; rfl) rfl rfl rfl (show mK Mc21 q = 6 from (hN.1 0 (by decide)).1) dX3_init_69 ?_
  have hN : NB tbCo q 10 [(0, 14, 9), (0, 13, 8), (0, 12, 7), (0, 9, 6), (0, 8, 5), (0, 7, 4), (0, 6, 1), (1, 1, 3), (1, 0, 2)] [] (gS G 0) (up2 zI 0 11 (nI 1)) zL M0 (wR Mc21 q 14 (some (q + 9))) := hN.ref 0 14 9 rfl
  generalize (wR Mc21 q 14 (some (q + 9))) = Mc23 at hN ⊢
  refine r_aload_n C 0 dX3_init_72 rfl rfl ?_
  refine r_iload_n C 1 dX3_init_73 rfl rfl ?_
  refine r_putIF C fl_X3_44 (hini rfl) (fun r h => by cases h; rfl) (show mK Mc23 q = 6 from (hN.1 0 (by decide)).1) dX3_init_74 ?_
  have hN : NB tbCo q 10 [(0, 14, 9), (0, 13, 8), (0, 12, 7), (0, 9, 6), (0, 8, 5), (0, 7, 4), (0, 6, 1), (1, 1, 3), (1, 0, 2)] [] (gS G 0) (up2 (up2 zI 0 11 (nI 1)) 0 0 a1) zL M0 (wI Mc23 q 0 a1) := hN.wi 0 0 a1 (by decide)
  generalize (wI Mc23 q 0 a1) = Mc24 at hN ⊢
  refine r_aload_n C 0 dX3_init_77 rfl rfl ?_
  refine r_iload_n C 2 dX3_init_78 rfl rfl ?_
  refine r_putIF C fl_X3_48 (hini rfl) (fun r h => by cases h; rfl) (show mK Mc24 q = 6 from (hN.1 0 (by decide)).1) dX3_init_79 ?_
  have hN : NB tbCo q 10 [(0, 14, 9), (0, 13, 8), (0, 12, 7), (0, 9, 6), (0, 8, 5), (0, 7, 4), (0, 6, 1), (1, 1, 3), (1, 0, 2)] [] (gS G 0) (up2 (up2 (up2 zI 0 11 (nI 1)) 0 0 a1) 0 1 a2) zL M0 (wI Mc24 q 1 a2) := hN.wi 0 1 a2 (by decide)
  generalize (wI Mc24 q 1 a2) = Mc25 at hN ⊢
  refine r_aload_n C 0 dX3_init_82 rfl rfl ?_
  refine r_iload_n C 3 dX3_init_83 rfl rfl ?_
  refine r_putIF C fl_X3_51 (hini rfl) (fun r h => by cases h; rfl) (show mK Mc25 q = 6 from (hN.1 0 (by decide)).1) dX3_init_84 ?_
  have hN : NB tbCo q 10 [(0, 14, 9), (0, 13, 8), (0, 12, 7), (0, 9, 6), (0, 8, 5), (0, 7, 4), (0, 6, 1), (1, 1, 3), (1, 0, 2)] [] (gS G 0) (up2 (up2 (up2 (up2 zI 0 11 (nI 1)) 0 0 a1) 0 1 a2) 0 2 a3) zL M0 (wI Mc25 q 2 a3) := hN.wi 0 2 a3 (by decide)
  generalize (wI Mc25 q 2 a3) = Mc26 at hN ⊢
  refine r_aload_n C 0 dX3_init_87 rfl rfl ?_
  refine r_iload C 4 dX3_init_88 rfl ?_
  refine r_putIF C fl_X3_54 (hini rfl) (fun r h => by cases h; rfl) (show mK Mc26 q = 6 from (hN.1 0 (by decide)).1) dX3_init_90 ?_
  have hN : NB tbCo q 10 [(0, 14, 9), (0, 13, 8), (0, 12, 7), (0, 9, 6), (0, 8, 5), (0, 7, 4), (0, 6, 1), (1, 1, 3), (1, 0, 2)] [] (gS G 0) (up2 (up2 (up2 (up2 (up2 zI 0 11 (nI 1)) 0 0 a1) 0 1 a2) 0 2 a3) 0 3 a4) zL M0 (wI Mc26 q 3 a4) := hN.wi 0 3 a4 (by decide)
  generalize (wI Mc26 q 3 a4) = Mc27 at hN ⊢
  refine r_aload_n C 0 dX3_init_93 rfl rfl ?_
  refine r_iload C 5 dX3_init_94 rfl ?_
  refine r_putZF C fl_X3_57 (hini rfl) (fun r h => by cases h; rfl) (bI_01 _) (show mK Mc27 q = 6 from (hN.1 0 (by decide)).1) dX3_init_96 ?_
  have hN : NB tbCo q 10 [(0, 14, 9), (0, 13, 8), (0, 12, 7), (0, 9, 6), (0, 8, 5), (0, 7, 4), (0, 6, 1), (1, 1, 3), (1, 0, 2)] [] (gS G 0) (up2 (up2 (up2 (up2 (up2 (up2 zI 0 11 (nI 1)) 0 0 a1) 0 1 a2) 0 2 a3) 0 3 a4) 0 4 (bI b5)) zL M0 (wI Mc27 q 4 (bI b5)) := hN.wi 0 4 (bI b5) (by decide)
  generalize (wI Mc27 q 4 (bI b5)) = Mc28 at hN ⊢
  refine r_aload_n C 0 dX3_init_99 rfl rfl ?_
  refine r_iload C 6 dX3_init_100 rfl ?_
  refine r_putIF C fl_X3_60 (hini rfl) (fun r h => by cases h; rfl) (show mK Mc28 q = 6 from (hN.1 0 (by decide)).1) dX3_init_102 ?_
  have hN : NB tbCo q 10 [(0, 14, 9), (0, 13, 8), (0, 12, 7), (0, 9, 6), (0, 8, 5), (0, 7, 4), (0, 6, 1), (1, 1, 3), (1, 0, 2)] [] (gS G 0) (up2 (up2 (up2 (up2 (up2 (up2 (up2 zI 0 11 (nI 1)) 0 0 a1) 0 1 a2) 0 2 a3) 0 3 a4) 0 4 (bI b5)) 0 5 a6) zL M0 (wI Mc28 q 5 a6) := hN.wi 0 5 a6 (by decide)
  generalize (wI Mc28 q 5 a6) = Mc29 at hN ⊢
  exact r_vret C hr (⟨rfl, hN⟩) (by first | exact Nat.zero_le _ | decide) (by first | exact Nat.zero_le _ | decide) dX3_init_105
set_option maxHeartbeats 1000000 in
set_option maxRecDepth 100000 in
theorem c_X5_init (l : Launch) (hfl : l.flags = flags0) (G : gW) (M : Mem) (M0 : Mem) (q : Nat) (hgq : gB G ≤ q) (h : NB tbGa q 1 [] [] (gS G 0) zI zL M0 M) (a1 a2 a3 a4 a5 a6 : Int32) : CT l yX5_init cX5_init 7 none 1 1 24 12 G M [.ref q, .int a1, .int a2, .int a3, .int a4, .int a5, .int a6] (fun v M' => v = none ∧ NB tbGa q 2 [(0, 6, 1)] [] (gS G 0) (up2 (up2 (up2 (up2 (up2 (up2 zI 0 0 a1) 0 1 a2) 0 2 a3) 0 3 a4) 0 4 a5) 0 5 a6) zL M0 M') := by
  refine CT.of hfl rfl (Nat.le_of_ble_eq_true rfl) ?_
  intro pp ee ss mm ar bw mt cd C hgX hr hini
  have hN := h
  refine V.eLo (lo' := [(0, .ref q), (1, .int a1), (2, .int a2), (3, .int a3), (4, .int a4), (5, .int a5), (6, .int a6)]) rfl ?_
  refine r_aload_n C 0 dX5_init_0 rfl rfl ?_
  refine r_objInit C oi_X5 oi_im oi_cd dX5_init_1 (Nat.le_of_ble_eq_true rfl) (Nat.le_of_ble_eq_true rfl) ?_
  refine r_aload_n C 0 dX5_init_4 rfl rfl ?_
  refine r_bipush C (v := nI 24) dX5_init_5 (by decide) ?_
  refine r_newarr C (q := q + 1) 1 (by decide) rfl ac_long (by decide) ((by omega)) (hN.2.1 _ (Nat.le_refl _)) (hN.2.2.1) (Nat.le_of_ble_eq_true rfl) (Nat.le_of_ble_eq_true rfl) dX5_init_7 ?_
  have hN : NB tbGa q 2 [] [] (gS G 0) zI zL M0 (wMk M (q + 1) 21 24) := hN.new 21 24 rfl ⟨by first | rfl | exact up2_row _ _ (by decide), rfl⟩
  generalize (wMk M (q + 1) 21 24) = Mc1 at hN ⊢
  refine r_putRF C fl_X5_9 (hini rfl) (fun r h => by cases h; rfl) rfl rfl rfl (show mK Mc1 q = 8 from (hN.1 0 (by decide)).1) dX5_init_9 ?_
  have hN : NB tbGa q 2 [(0, 6, 1)] [] (gS G 0) zI zL M0 (wR Mc1 q 6 (some (q + 1))) := hN.ref 0 6 1 rfl
  generalize (wR Mc1 q 6 (some (q + 1))) = Mc3 at hN ⊢
  refine r_aload_n C 0 dX5_init_12 rfl rfl ?_
  refine r_iload_n C 1 dX5_init_13 rfl rfl ?_
  refine r_putIF C fl_X5_15 (hini rfl) (fun r h => by cases h; rfl) (show mK Mc3 q = 8 from (hN.1 0 (by decide)).1) dX5_init_14 ?_
  have hN : NB tbGa q 2 [(0, 6, 1)] [] (gS G 0) (up2 zI 0 0 a1) zL M0 (wI Mc3 q 0 a1) := hN.wi 0 0 a1 (by decide)
  generalize (wI Mc3 q 0 a1) = Mc4 at hN ⊢
  refine r_aload_n C 0 dX5_init_17 rfl rfl ?_
  refine r_iload_n C 2 dX5_init_18 rfl rfl ?_
  refine r_putIF C fl_X5_19 (hini rfl) (fun r h => by cases h; rfl) (show mK Mc4 q = 8 from (hN.1 0 (by decide)).1) dX5_init_19 ?_
  have hN : NB tbGa q 2 [(0, 6, 1)] [] (gS G 0) (up2 (up2 zI 0 0 a1) 0 1 a2) zL M0 (wI Mc4 q 1 a2) := hN.wi 0 1 a2 (by decide)
  generalize (wI Mc4 q 1 a2) = Mc5 at hN ⊢
  refine r_aload_n C 0 dX5_init_22 rfl rfl ?_
  refine r_iload_n C 3 dX5_init_23 rfl rfl ?_
  refine r_putIF C fl_X5_22 (hini rfl) (fun r h => by cases h; rfl) (show mK Mc5 q = 8 from (hN.1 0 (by decide)).1) dX5_init_24 ?_
  have hN : NB tbGa q 2 [(0, 6, 1)] [] (gS G 0) (up2 (up2 (up2 zI 0 0 a1) 0 1 a2) 0 2 a3) zL M0 (wI Mc5 q 2 a3) := hN.wi 0 2 a3 (by decide)
  generalize (wI Mc5 q 2 a3) = Mc6 at hN ⊢
  refine r_aload_n C 0 dX5_init_27 rfl rfl ?_
  refine r_iload C 4 dX5_init_28 rfl ?_
  refine r_putIF C fl_X5_25 (hini rfl) (fun r h => by cases h; rfl) (show mK Mc6 q = 8 from (hN.1 0 (by decide)).1) dX5_init_30 ?_
  have hN : NB tbGa q 2 [(0, 6, 1)] [] (gS G 0) (up2 (up2 (up2 (up2 zI 0 0 a1) 0 1 a2) 0 2 a3) 0 3 a4) zL M0 (wI Mc6 q 3 a4) := hN.wi 0 3 a4 (by decide)
  generalize (wI Mc6 q 3 a4) = Mc7 at hN ⊢
  refine r_aload_n C 0 dX5_init_33 rfl rfl ?_
  refine r_iload C 5 dX5_init_34 rfl ?_
  refine r_putIF C fl_X5_28 (hini rfl) (fun r h => by cases h; rfl) (show mK Mc7 q = 8 from (hN.1 0 (by decide)).1) dX5_init_36 ?_
  have hN : NB tbGa q 2 [(0, 6, 1)] [] (gS G 0) (up2 (up2 (up2 (up2 (up2 zI 0 0 a1) 0 1 a2) 0 2 a3) 0 3 a4) 0 4 a5) zL M0 (wI Mc7 q 4 a5) := hN.wi 0 4 a5 (by decide)
  generalize (wI Mc7 q 4 a5) = Mc8 at hN ⊢
  refine r_aload_n C 0 dX5_init_39 rfl rfl ?_
  refine r_iload C 6 dX5_init_40 rfl ?_
  refine r_putIF C fl_X5_31 (hini rfl) (fun r h => by cases h; rfl) (show mK Mc8 q = 8 from (hN.1 0 (by decide)).1) dX5_init_42 ?_
  have hN : NB tbGa q 2 [(0, 6, 1)] [] (gS G 0) (up2 (up2 (up2 (up2 (up2 (up2 zI 0 0 a1) 0 1 a2) 0 2 a3) 0 3 a4) 0 4 a5) 0 5 a6) zL M0 (wI Mc8 q 5 a6) := hN.wi 0 5 a6 (by decide)
  generalize (wI Mc8 q 5 a6) = Mc9 at hN ⊢
  exact r_vret C hr (⟨rfl, hN⟩) (by first | exact Nat.zero_le _ | decide) (by first | exact Nat.zero_le _ | decide) dX5_init_45
set_option maxHeartbeats 1000000 in
set_option maxRecDepth 100000 in
theorem c_X7_init (l : Launch) (hfl : l.flags = flags0) (G : gW) (M : Mem) (M0 : Mem) (q : Nat) (hgq : gB G ≤ q) (h : NB tbPa q 1 [] [] (gS G 0) zI zL M0 M) (a1 a2 : Int32) (a3 : Int64) : CT l yX7_init cX7_init 5 none 1 0 0 12 G M [.ref q, .int a1, .int a2, .long a3] (fun v M' => v = none ∧ NB tbPa q 1 [] [] (gS G 0) (up2 (up2 zI 0 0 a1) 0 1 a2) (up2 zL 0 2 a3) M0 M') := by
  refine CT.of hfl rfl (Nat.le_of_ble_eq_true rfl) ?_
  intro pp ee ss mm ar bw mt cd C hgX hr hini
  have hN := h
  refine V.eLo (lo' := [(0, .ref q), (1, .int a1), (2, .int a2), (3, .long a3)]) rfl ?_
  refine r_aload_n C 0 dX7_init_0 rfl rfl ?_
  refine r_objInit C oi_X7 oi_im oi_cd dX7_init_1 (Nat.le_of_ble_eq_true rfl) (Nat.le_of_ble_eq_true rfl) ?_
  refine r_aload_n C 0 dX7_init_4 rfl rfl ?_
  refine r_iload_n C 1 dX7_init_5 rfl rfl ?_
  refine r_putIF C fl_X7_7 (hini rfl) (fun r h => by cases h; rfl) (show mK M q = 10 from (hN.1 0 (by decide)).1) dX7_init_6 ?_
  have hN : NB tbPa q 1 [] [] (gS G 0) (up2 zI 0 0 a1) zL M0 (wI M q 0 a1) := hN.wi 0 0 a1 (by decide)
  generalize (wI M q 0 a1) = Mc1 at hN ⊢
  refine r_aload_n C 0 dX7_init_9 rfl rfl ?_
  refine r_iload_n C 2 dX7_init_10 rfl rfl ?_
  refine r_putIF C fl_X7_13 (hini rfl) (fun r h => by cases h; rfl) (show mK Mc1 q = 10 from (hN.1 0 (by decide)).1) dX7_init_11 ?_
  have hN : NB tbPa q 1 [] [] (gS G 0) (up2 (up2 zI 0 0 a1) 0 1 a2) zL M0 (wI Mc1 q 1 a2) := hN.wi 0 1 a2 (by decide)
  generalize (wI Mc1 q 1 a2) = Mc2 at hN ⊢
  refine r_aload_n C 0 dX7_init_14 rfl rfl ?_
  refine r_lload_n C 3 dX7_init_15 rfl rfl ?_
  refine r_putLF C fl_X7_16 (hini rfl) (fun r h => by cases h; rfl) (show mK Mc2 q = 10 from (hN.1 0 (by decide)).1) dX7_init_16 ?_
  have hN : NB tbPa q 1 [] [] (gS G 0) (up2 (up2 zI 0 0 a1) 0 1 a2) (up2 zL 0 2 a3) M0 (wL Mc2 q 2 a3) := hN.wl 0 2 a3 (by decide)
  generalize (wL Mc2 q 2 a3) = Mc3 at hN ⊢
  exact r_vret C hr (⟨rfl, hN⟩) (by first | exact Nat.zero_le _ | decide) (by first | exact Nat.zero_le _ | decide) dX7_init_19
set_option maxHeartbeats 1000000 in
set_option maxRecDepth 100000 in
theorem c_X6_init (l : Launch) (hfl : l.flags = flags0) (G : gW) (M : Mem) (q b d : Nat) (hkq : mK M q = 9) : CT l yX6_init cX6_init 3 none 1 0 0 12 G M [.ref q, .ref b, .int (nI d)] (fun v M' => v = none ∧ M' = wI (wR M q 0 (some b)) q 1 (nI d)) := by
  refine CT.of hfl rfl (Nat.le_of_ble_eq_true rfl) ?_
  intro pp ee ss mm ar bw mt cd C hgX hr hini
  refine V.eLo (lo' := [(0, .ref q), (1, .ref b), (2, .int (nI d))]) rfl ?_
  refine r_aload_n C 0 dX6_init_0 rfl rfl ?_
  refine r_objInit C oi_X6 oi_im oi_cd dX6_init_1 (Nat.le_of_ble_eq_true rfl) (Nat.le_of_ble_eq_true rfl) ?_
  refine r_aload_n C 0 dX6_init_4 rfl rfl ?_
  refine r_aload_n C 1 dX6_init_5 rfl rfl ?_
  refine r_putRF C fl_X6_7 (hini rfl) (fun r h => by cases h; rfl) rfl rfl rfl hkq dX6_init_6 ?_
  refine r_aload_n C 0 dX6_init_9 rfl rfl ?_
  refine r_iload_n C 2 dX6_init_10 rfl rfl ?_
  refine r_putIF C fl_X6_13 (hini rfl) (fun r h => by cases h; rfl) (show mK (wR M q 0 (some b)) q = 9 from hkq) dX6_init_11 ?_
  exact r_vret C hr (⟨rfl, rfl⟩) (by first | exact Nat.zero_le _ | decide) (by first | exact Nat.zero_le _ | decide) dX6_init_14

