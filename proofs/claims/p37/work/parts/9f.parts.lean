set_option maxHeartbeats 1000000 in
set_option maxRecDepth 100000 in
theorem c_Jx4a65c_init_da8c8 (l : Launch) (hfl : l.flags = flags0) (G : gW) (M : Mem) (M0 : Mem) (q : Nat) (hgq : gB G ≤ q) (h : NB tbA q 1 [] [] (gS G 0) zI zL M0 M) : CT l yJx4a65c_init_da8c8 cJx4a65c_init_da8c8 1 none 3 0 0 52 G M [.ref q] (fun v M' => v = none ∧ NB tbA q 1 [] [0] (gS G 0) zI zL M0 M') := by
  refine CT.of hfl rfl (Nat.le_of_ble_eq_true rfl) ?_
  intro pp ee ss mm ar bw mt cd C hgX hr hini
  have hN := h
  refine V.eLo (lo' := [(0, .ref q)]) rfl ?_
  refine r_aload_n C 0 dJx4a65c_init_da8c8_0 rfl rfl ?_
  refine r_callI C hgX ml_Jx4a65c_1 im_Jxc12de_init_da8c8 rfl (c_Jxc12de_init_da8c8 l hfl G M q ((show mK M q = 3 from (hN.1 0 (by decide)).1))) rfl (Nat.le_of_ble_eq_true rfl) ⟨Nat.le_of_ble_eq_true rfl, Nat.le_of_ble_eq_true rfl⟩ ⟨Nat.le_of_ble_eq_true rfl, Nat.le_of_ble_eq_true rfl⟩ dJx4a65c_init_da8c8_1 rfl ?_
  rintro _ My1 ⟨rfl, hMe1⟩
  subst hMe1
  have hN : NB tbA q 1 [] [] (gS G 0) zI zL M0 (wI M q 0 (nI 0)) := (hN.wi 0 0 (nI 0) (by decide)).v (VI' := zI) (VL' := zL) (fun o_ _ => congrFun z_up o_) (fun _ _ => rfl)
  generalize (wI M q 0 (nI 0)) = Mc2 at hN ⊢
  refine r_aload_n C 0 dJx4a65c_init_da8c8_4 rfl rfl ?_
  refine r_gets0 C hgX gl_39 dJx4a65c_init_da8c8_5 ?_
  refine r_putR C fl_Jx4a65c_9 rfl rfl rfl (show mK Mc2 q = 3 from (hN.1 0 (by decide)).1) dJx4a65c_init_da8c8_8 ?_
  have hN : NB tbA q 1 [] [0] (gS G 0) zI zL M0 (wR Mc2 q 1 (some (gS G 0))) := hN.lst 0 rfl
  generalize (wR Mc2 q 1 (some (gS G 0))) = Mc4 at hN ⊢
  exact r_vret C hr (⟨rfl, hN⟩) (by first | exact Nat.zero_le _ | decide) (by first | exact Nat.zero_le _ | decide) dJx4a65c_init_da8c8_11
set_option maxHeartbeats 1000000 in
set_option maxRecDepth 100000 in
theorem c_X0_init (l : Launch) (hfl : l.flags = flags0) (G : gW) (M : Mem) (M0 : Mem) (q : Nat) (hgq : gB G ≤ q) (h : NB tbBk q 1 [] [] (gS G 0) zI zL M0 M) : CT l yX0_init cX0_init 1 none 1 41 819 12 G M [.ref q] (fun v M' => v = none ∧ NB tbBk q 42 [(0, 14, 41), (0, 13, 40), (0, 12, 39), (0, 11, 38), (0, 10, 37), (0, 9, 36), (0, 8, 29), (29, 0, 30), (29, 1, 31), (29, 2, 32), (29, 3, 33), (29, 4, 34), (29, 5, 35), (0, 7, 25), (25, 0, 26), (25, 1, 27), (25, 2, 28), (0, 6, 21), (21, 0, 22), (21, 1, 23), (21, 2, 24), (0, 5, 17), (17, 0, 18), (17, 1, 19), (17, 2, 20), (0, 4, 13), (13, 0, 14), (13, 1, 15), (13, 2, 16), (0, 3, 9), (9, 0, 10), (9, 1, 11), (9, 2, 12), (0, 2, 5), (5, 0, 6), (5, 1, 7), (5, 2, 8), (0, 1, 1), (1, 0, 2), (1, 1, 3), (1, 2, 4)] [] (gS G 0) (up2 zI 0 0 (nI 1)) zL M0 M') := by
  refine CT.of hfl rfl (Nat.le_of_ble_eq_true rfl) ?_
  intro pp ee ss mm ar bw mt cd C hgX hr hini
  have hN := h
  refine V.eLo (lo' := [(0, .ref q)]) rfl ?_
  refine r_aload_n C 0 dX0_init_0 rfl rfl ?_
  refine r_objInit C oi_X0 oi_im oi_cd dX0_init_1 (Nat.le_of_ble_eq_true rfl) (Nat.le_of_ble_eq_true rfl) ?_
  refine r_aload_n C 0 dX0_init_4 rfl rfl ?_
  refine r_iconst C (v := nI 1) dX0_init_5 (by decide) ?_
  refine r_putZ C fl_X0_9 (by decide) (show mK M q = 4 from (hN.1 0 (by decide)).1) dX0_init_6 ?_
  have hN : NB tbBk q 1 [] [] (gS G 0) (up2 zI 0 0 (nI 1)) zL M0 (wI M q 0 (nI 1)) := hN.wi 0 0 (nI 1) (by decide)
  generalize (wI M q 0 (nI 1)) = Mc1 at hN ⊢
  refine r_aload_n C 0 dX0_init_9 rfl rfl ?_
  refine r_iconst C (v := nI 3) dX0_init_10 (by decide) ?_
  refine r_bipush C (v := nI 24) dX0_init_11 (by decide) ?_
  refine r_multi C hgX (q := q + 1) (n := 3) (k := 24) (j := 1) (by decide) cl_X0_15 (by decide) ac_long (by decide) (by decide) ((by omega)) (hN.2.1 _ (Nat.le_refl _)) (hN.2.2.1) (Nat.le_of_ble_eq_true rfl) (Nat.le_of_ble_eq_true rfl) dX0_init_13 ?_
  have hN : NB tbBk q 5 [(1, 0, 2), (1, 1, 3), (1, 2, 4)] [] (gS G 0) (up2 zI 0 0 (nI 1)) zL M0 (wMul Mc1 (q + 1) 28 21 3 24) := hN.multi 28 21 3 24 rfl (fun o_ h_ => ⟨vz (by omega) (rfl), rfl⟩)
  generalize (wMul Mc1 (q + 1) 28 21 3 24) = Mc2 at hN ⊢
  refine r_putRF C fl_X0_17 (hini rfl) (fun r h => by cases h; rfl) rfl rfl rfl (show mK Mc2 q = 4 from (hN.1 0 (by decide)).1) dX0_init_17 ?_
  have hN : NB tbBk q 5 [(0, 1, 1), (1, 0, 2), (1, 1, 3), (1, 2, 4)] [] (gS G 0) (up2 zI 0 0 (nI 1)) zL M0 (wR Mc2 q 1 (some (q + 1))) := hN.ref 0 1 1 rfl
  generalize (wR Mc2 q 1 (some (q + 1))) = Mc4 at hN ⊢
  refine r_aload_n C 0 dX0_init_20 rfl rfl ?_
  refine r_iconst C (v := nI 3) dX0_init_21 (by decide) ?_
  refine r_bipush C (v := nI 24) dX0_init_22 (by decide) ?_
  refine r_multi C hgX (q := q + 5) (n := 3) (k := 24) (j := 1) (by decide) cl_X0_15 (by decide) ac_long (by decide) (by decide) ((by omega)) (hN.2.1 _ (Nat.le_refl _)) (hN.2.2.1) (Nat.le_of_ble_eq_true rfl) (Nat.le_of_ble_eq_true rfl) dX0_init_24 ?_
  have hN : NB tbBk q 9 [(5, 0, 6), (5, 1, 7), (5, 2, 8), (0, 1, 1), (1, 0, 2), (1, 1, 3), (1, 2, 4)] [] (gS G 0) (up2 zI 0 0 (nI 1)) zL M0 (wMul Mc4 (q + 5) 28 21 3 24) := hN.multi 28 21 3 24 rfl (fun o_ h_ => ⟨vz (by omega) (rfl), rfl⟩)
  generalize (wMul Mc4 (q + 5) 28 21 3 24) = Mc5 at hN ⊢
  refine r_putRF C fl_X0_20 (hini rfl) (fun r h => by cases h; rfl) rfl rfl rfl (show mK Mc5 q = 4 from (hN.1 0 (by decide)).1) dX0_init_28 ?_
  have hN : NB tbBk q 9 [(0, 2, 5), (5, 0, 6), (5, 1, 7), (5, 2, 8), (0, 1, 1), (1, 0, 2), (1, 1, 3), (1, 2, 4)] [] (gS G 0) (up2 zI 0 0 (nI 1)) zL M0 (wR Mc5 q 2 (some (q + 5))) := hN.ref 0 2 5 rfl
  generalize (wR Mc5 q 2 (some (q + 5))) = Mc7 at hN ⊢
  refine r_aload_n C 0 dX0_init_31 rfl rfl ?_
  refine r_iconst C (v := nI 3) dX0_init_32 (by decide) ?_
  refine r_bipush C (v := nI 24) dX0_init_33 (by decide) ?_
  refine r_multi C hgX (q := q + 9) (n := 3) (k := 24) (j := 1) (by decide) cl_X0_15 (by decide) ac_long (by decide) (by decide) ((by omega)) (hN.2.1 _ (Nat.le_refl _)) (hN.2.2.1) (Nat.le_of_ble_eq_true rfl) (Nat.le_of_ble_eq_true rfl) dX0_init_35 ?_
  have hN : NB tbBk q 13 [(9, 0, 10), (9, 1, 11), (9, 2, 12), (0, 2, 5), (5, 0, 6), (5, 1, 7), (5, 2, 8), (0, 1, 1), (1, 0, 2), (1, 1, 3), (1, 2, 4)] [] (gS G 0) (up2 zI 0 0 (nI 1)) zL M0 (wMul Mc7 (q + 9) 28 21 3 24) := hN.multi 28 21 3 24 rfl (fun o_ h_ => ⟨vz (by omega) (rfl), rfl⟩)
  generalize (wMul Mc7 (q + 9) 28 21 3 24) = Mc8 at hN ⊢
  refine r_putRF C fl_X0_23 (hini rfl) (fun r h => by cases h; rfl) rfl rfl rfl (show mK Mc8 q = 4 from (hN.1 0 (by decide)).1) dX0_init_39 ?_
  have hN : NB tbBk q 13 [(0, 3, 9), (9, 0, 10), (9, 1, 11), (9, 2, 12), (0, 2, 5), (5, 0, 6), (5, 1, 7), (5, 2, 8), (0, 1, 1), (1, 0, 2), (1, 1, 3), (1, 2, 4)] [] (gS G 0) (up2 zI 0 0 (nI 1)) zL M0 (wR Mc8 q 3 (some (q + 9))) := hN.ref 0 3 9 rfl
  generalize (wR Mc8 q 3 (some (q + 9))) = Mc10 at hN ⊢
  refine r_aload_n C 0 dX0_init_42 rfl rfl ?_
  refine r_iconst C (v := nI 3) dX0_init_43 (by decide) ?_
  refine r_bipush C (v := nI 24) dX0_init_44 (by decide) ?_
  refine r_multi C hgX (q := q + 13) (n := 3) (k := 24) (j := 1) (by decide) cl_X0_15 (by decide) ac_long (by decide) (by decide) ((by omega)) (hN.2.1 _ (Nat.le_refl _)) (hN.2.2.1) (Nat.le_of_ble_eq_true rfl) (Nat.le_of_ble_eq_true rfl) dX0_init_46 ?_
  have hN : NB tbBk q 17 [(13, 0, 14), (13, 1, 15), (13, 2, 16), (0, 3, 9), (9, 0, 10), (9, 1, 11), (9, 2, 12), (0, 2, 5), (5, 0, 6), (5, 1, 7), (5, 2, 8), (0, 1, 1), (1, 0, 2), (1, 1, 3), (1, 2, 4)] [] (gS G 0) (up2 zI 0 0 (nI 1)) zL M0 (wMul Mc10 (q + 13) 28 21 3 24) := hN.multi 28 21 3 24 rfl (fun o_ h_ => ⟨vz (by omega) (rfl), rfl⟩)
  generalize (wMul Mc10 (q + 13) 28 21 3 24) = Mc11 at hN ⊢
  refine r_putRF C fl_X0_26 (hini rfl) (fun r h => by cases h; rfl) rfl rfl rfl (show mK Mc11 q = 4 from (hN.1 0 (by decide)).1) dX0_init_50 ?_
  have hN : NB tbBk q 17 [(0, 4, 13), (13, 0, 14), (13, 1, 15), (13, 2, 16), (0, 3, 9), (9, 0, 10), (9, 1, 11), (9, 2, 12), (0, 2, 5), (5, 0, 6), (5, 1, 7), (5, 2, 8), (0, 1, 1), (1, 0, 2), (1, 1, 3), (1, 2, 4)] [] (gS G 0) (up2 zI 0 0 (nI 1)) zL M0 (wR Mc11 q 4 (some (q + 13))) := hN.ref 0 4 13 rfl
  generalize (wR Mc11 q 4 (some (q + 13))) = Mc13 at hN ⊢
  refine r_aload_n C 0 dX0_init_53 rfl rfl ?_
  refine r_iconst C (v := nI 3) dX0_init_54 (by decide) ?_
  refine r_bipush C (v := nI 24) dX0_init_55 (by decide) ?_
  refine r_multi C hgX (q := q + 17) (n := 3) (k := 24) (j := 1) (by decide) cl_X0_15 (by decide) ac_long (by decide) (by decide) ((by omega)) (hN.2.1 _ (Nat.le_refl _)) (hN.2.2.1) (Nat.le_of_ble_eq_true rfl) (Nat.le_of_ble_eq_true rfl) dX0_init_57 ?_
  have hN : NB tbBk q 21 [(17, 0, 18), (17, 1, 19), (17, 2, 20), (0, 4, 13), (13, 0, 14), (13, 1, 15), (13, 2, 16), (0, 3, 9), (9, 0, 10), (9, 1, 11), (9, 2, 12), (0, 2, 5), (5, 0, 6), (5, 1, 7), (5, 2, 8), (0, 1, 1), (1, 0, 2), (1, 1, 3), (1, 2, 4)] [] (gS G 0) (up2 zI 0 0 (nI 1)) zL M0 (wMul Mc13 (q + 17) 28 21 3 24) := hN.multi 28 21 3 24 rfl (fun o_ h_ => ⟨vz (by omega) (rfl), rfl⟩)
  generalize (wMul Mc13 (q + 17) 28 21 3 24) = Mc14 at hN ⊢
  refine r_putRF C fl_X0_29 (hini rfl) (fun r h => by cases h; rfl) rfl rfl rfl (show mK Mc14 q = 4 from (hN.1 0 (by decide)).1) dX0_init_61 ?_
  have hN : NB tbBk q 21 [(0, 5, 17), (17, 0, 18), (17, 1, 19), (17, 2, 20), (0, 4, 13), (13, 0, 14), (13, 1, 15), (13, 2, 16), (0, 3, 9), (9, 0, 10), (9, 1, 11), (9, 2, 12), (0, 2, 5), (5, 0, 6), (5, 1, 7), (5, 2, 8), (0, 1, 1), (1, 0, 2), (1, 1, 3), (1, 2, 4)] [] (gS G 0) (up2 zI 0 0 (nI 1)) zL M0 (wR Mc14 q 5 (some (q + 17))) := hN.ref 0 5 17 rfl
  generalize (wR Mc14 q 5 (some (q + 17))) = Mc16 at hN ⊢
  refine r_aload_n C 0 dX0_init_64 rfl rfl ?_
  refine r_iconst C (v := nI 3) dX0_init_65 (by decide) ?_
  refine r_bipush C (v := nI 24) dX0_init_66 (by decide) ?_
  refine r_multi C hgX (q := q + 21) (n := 3) (k := 24) (j := 1) (by decide) cl_X0_15 (by decide) ac_long (by decide) (by decide) ((by omega)) (hN.2.1 _ (Nat.le_refl _)) (hN.2.2.1) (Nat.le_of_ble_eq_true rfl) (Nat.le_of_ble_eq_true rfl) dX0_init_68 ?_
  have hN : NB tbBk q 25 [(21, 0, 22), (21, 1, 23), (21, 2, 24), (0, 5, 17), (17, 0, 18), (17, 1, 19), (17, 2, 20), (0, 4, 13), (13, 0, 14), (13, 1, 15), (13, 2, 16), (0, 3, 9), (9, 0, 10), (9, 1, 11), (9, 2, 12), (0, 2, 5), (5, 0, 6), (5, 1, 7), (5, 2, 8), (0, 1, 1), (1, 0, 2), (1, 1, 3), (1, 2, 4)] [] (gS G 0) (up2 zI 0 0 (nI 1)) zL M0 (wMul Mc16 (q + 21) 28 21 3 24) := hN.multi 28 21 3 24 rfl (fun o_ h_ => ⟨vz (by omega) (rfl), rfl⟩)
  generalize (wMul Mc16 (q + 21) 28 21 3 24) = Mc17 at hN ⊢
  refine r_putRF C fl_X0_32 (hini rfl) (fun r h => by cases h; rfl) rfl rfl rfl (show mK Mc17 q = 4 from (hN.1 0 (by decide)).1) dX0_init_72 ?_
  have hN : NB tbBk q 25 [(0, 6, 21), (21, 0, 22), (21, 1, 23), (21, 2, 24), (0, 5, 17), (17, 0, 18), (17, 1, 19), (17, 2, 20), (0, 4, 13), (13, 0, 14), (13, 1, 15), (13, 2, 16), (0, 3, 9), (9, 0, 10), (9, 1, 11), (9, 2, 12), (0, 2, 5), (5, 0, 6), (5, 1, 7), (5, 2, 8), (0, 1, 1), (1, 0, 2), (1, 1, 3), (1, 2, 4)] [] (gS G 0) (up2 zI 0 0 (nI 1)) zL M0 (wR Mc17 q 6 (some (q + 21))) := hN.ref 0 6 21 rfl
  generalize (wR Mc17 q 6 (some (q + 21))) = Mc19 at hN ⊢
  refine r_aload_n C 0 dX0_init_75 rfl rfl ?_
  refine r_iconst C (v := nI 3) dX0_init_76 (by decide) ?_
  refine r_bipush C (v := nI 24) dX0_init_77 (by decide) ?_
  refine r_multi C hgX (q := q + 25) (n := 3) (k := 24) (j := 1) (by decide) cl_X0_15 (by decide) ac_long (by decide) (by decide) ((by omega)) (hN.2.1 _ (Nat.le_refl _)) (hN.2.2.1) (Nat.le_of_ble_eq_true rfl) (Nat.le_of_ble_eq_true rfl) dX0_init_79 ?_
  have hN : NB tbBk q 29 [(25, 0, 26), (25, 1, 27), (25, 2, 28), (0, 6, 21), (21, 0, 22), (21, 1, 23), (21, 2, 24), (0, 5, 17), (17, 0, 18), (17, 1, 19), (17, 2, 20), (0, 4, 13), (13, 0, 14), (13, 1, 15), (13, 2, 16), (0, 3, 9), (9, 0, 10), (9, 1, 11), (9, 2, 12), (0, 2, 5), (5, 0, 6), (5, 1, 7), (5, 2, 8), (0, 1, 1), (1, 0, 2), (1, 1, 3), (1, 2, 4)] [] (gS G 0) (up2 zI 0 0 (nI 1)) zL M0 (wMul Mc19 (q + 25) 28 21 3 24) := hN.multi 28 21 3 24 rfl (fun o_ h_ => ⟨vz (by omega) (rfl), rfl⟩)
  generalize (wMul Mc19 (q + 25) 28 21 3 24) = Mc20 at hN ⊢
  refine r_putRF C fl_X0_35 (hini rfl) (fun r h => by cases h; rfl) rfl rfl rfl (show mK Mc20 q = 4 from (hN.1 0 (by decide)).1) dX0_init_83 ?_
  have hN : NB tbBk q 29 [(0, 7, 25), (25, 0, 26), (25, 1, 27), (25, 2, 28), (0, 6, 21), (21, 0, 22), (21, 1, 23), (21, 2, 24), (0, 5, 17), (17, 0, 18), (17, 1, 19), (17, 2, 20), (0, 4, 13), (13, 0, 14), (13, 1, 15), (13, 2, 16), (0, 3, 9), (9, 0, 10), (9, 1, 11), (9, 2, 12), (0, 2, 5), (5, 0, 6), (5, 1, 7), (5, 2, 8), (0, 1, 1), (1, 0, 2), (1, 1, 3), (1, 2, 4)] [] (gS G 0) (up2 zI 0 0 (nI 1)) zL M0 (wR Mc20 q 7 (some (q + 25))) := hN.ref 0 7 25 rfl
  generalize (wR Mc20 q 7 (some (q + 25))) = Mc22 at hN ⊢
  refine r_aload_n C 0 dX0_init_86 rfl rfl ?_
  refine r_bipush C (v := nI 6) dX0_init_87 (by decide) ?_
  refine r_bipush C (v := nI 24) dX0_init_89 (by decide) ?_
  refine r_multi C hgX (q := q + 29) (n := 6) (k := 24) (j := 1) (by decide) cl_X0_15 (by decide) ac_long (by decide) (by decide) ((by omega)) (hN.2.1 _ (Nat.le_refl _)) (hN.2.2.1) (Nat.le_of_ble_eq_true rfl) (Nat.le_of_ble_eq_true rfl) dX0_init_91 ?_
  have hN : NB tbBk q 36 [(29, 0, 30), (29, 1, 31), (29, 2, 32), (29, 3, 33), (29, 4, 34), (29, 5, 35), (0, 7, 25), (25, 0, 26), (25, 1, 27), (25, 2, 28), (0, 6, 21), (21, 0, 22), (21, 1, 23), (21, 2, 24), (0, 5, 17), (17, 0, 18), (17, 1, 19), (17, 2, 20), (0, 4, 13), (13, 0, 14), (13, 1, 15), (13, 2, 16), (0, 3, 9), (9, 0, 10), (9, 1, 11), (9, 2, 12), (0, 2, 5), (5, 0, 6), (5, 1, 7), (5, 2, 8), (0, 1, 1), (1, 0, 2), (1, 1, 3), (1, 2, 4)] [] (gS G 0) (up2 zI 0 0 (nI 1)) zL M0 (wMul Mc22 (q + 29) 28 21 6 24) := hN.multi 28 21 6 24 rfl (fun o_ h_ => ⟨vz (by omega) (rfl), rfl⟩)
  generalize (wMul Mc22 (q + 29) 28 21 6 24) = Mc23 at hN ⊢
  refine r_putRF C fl_X0_38 (hini rfl) (fun r h => by cases h; rfl) rfl rfl rfl (show mK Mc23 q = 4 from (hN.1 0 (by decide)).1) dX0_init_95 ?_
  have hN : NB tbBk q 36 [(0, 8, 29), (29, 0, 30), (29, 1, 31), (29, 2, 32), (29, 3, 33), (29, 4, 34), (29, 5, 35), (0, 7, 25), (25, 0, 26), (25, 1, 27), (25, 2, 28), (0, 6, 21), (21, 0, 22), (21, 1, 23), (21, 2, 24), (0, 5, 17), (17, 0, 18), (17, 1, 19), (17, 2, 20), (0, 4, 13), (13, 0, 14), (13, 1, 15), (13, 2, 16), (0, 3, 9), (9, 0, 10), (9, 1, 11), (9, 2, 12), (0, 2, 5), (5, 0, 6), (5, 1, 7), (5, 2, 8), (0, 1, 1), (1, 0, 2), (1, 1, 3), (1, 2, 4)] [] (gS G 0) (up2 zI 0 0 (nI 1)) zL M0 (wR Mc23 q 8 (some (q + 29))) := hN.ref 0 8 29 rfl
  generalize (wR Mc23 q 8 (some (q + 29))) = Mc25 at hN ⊢
  refine r_aload_n C 0 dX0_init_98 rfl rfl ?_
  refine r_bipush C (v := nI 24) dX0_init_99 (by decide) ?_
  refine r_newarr C (q := q + 36) 0 (by decide) rfl ac_int (by decide) ((by omega)) (hN.2.1 _ (Nat.le_refl _)) (hN.2.2.1) (Nat.le_of_ble_eq_true rfl) (Nat.le_of_ble_eq_true rfl) dX0_init_101 ?_
  have hN : NB tbBk q 37 [(0, 8, 29), (29, 0, 30), (29, 1, 31), (29, 2, 32), (29, 3, 33), (29, 4, 34), (29, 5, 35), (0, 7, 25), (25, 0, 26), (25, 1, 27), (25, 2, 28), (0, 6, 21), (21, 0, 22), (21, 1, 23), (21, 2, 24), (0, 5, 17), (17, 0, 18), (17, 1, 19), (17, 2, 20), (0, 4, 13), (13, 0, 14), (13, 1, 15), (13, 2, 16), (0, 3, 9), (9, 0, 10), (9, 1, 11), (9, 2, 12), (0, 2, 5), (5, 0, 6), (5, 1, 7), (5, 2, 8), (0, 1, 1), (1, 0, 2), (1, 1, 3), (1, 2, 4)] [] (gS G 0) (up2 zI 0 0 (nI 1)) zL M0 (wMk Mc25 (q + 36) 20 24) := hN.new 20 24 rfl ⟨by first | rfl | exact up2_row _ _ (by decide), rfl⟩
  generalize (wMk Mc25 (q + 36) 20 24) = Mc26 at hN ⊢
  refine r_putRF C fl_X0_41 (hini rfl) (fun r h => by cases h; rfl) rfl rfl rfl (show mK Mc26 q = 4 from (hN.1 0 (by decide)).1) dX0_init_103 ?_
  have hN : NB tbBk q 37 [(0, 9, 36), (0, 8, 29), (29, 0, 30), (29, 1, 31), (29, 2, 32), (29, 3, 33), (29, 4, 34), (29, 5, 35), (0, 7, 25), (25, 0, 26), (25, 1, 27), (25, 2, 28), (0, 6, 21), (21, 0, 22), (21, 1, 23), (21, 2, 24), (0, 5, 17), (17, 0, 18), (17, 1, 19), (17, 2, 20), (0, 4, 13), (13, 0, 14), (13, 1, 15), (13, 2, 16), (0, 3, 9), (9, 0, 10), (9, 1, 11), (9, 2, 12), (0, 2, 5), (5, 0, 6), (5, 1, 7), (5, 2, 8), (0, 1, 1), (1, 0, 2), (1, 1, 3), (1, 2, 4)] [] (gS G 0) (up2 zI 0 0 (nI 1)) zL M0 (wR Mc26 q 9 (some (q + 36))) := hN.ref 0 9 36 rfl
  generalize (wR Mc26 q 9 (some (q + 36))) = Mc28 at hN ⊢
  refine r_aload_n C 0 dX0_init_106 rfl rfl ?_
  refine r_bipush C (v := nI 24) dX0_init_107 (by decide) ?_
  refine r_newarr C (q := q + 37) 1 (by decide) rfl ac_long (by decide) ((by omega)) (hN.2.1 _ (Nat.le_refl _)) (hN.2.2.1) (Nat.le_of_ble_eq_true rfl) (Nat.le_of_ble_eq_true rfl) dX0_init_109 ?_
  have hN : NB tbBk q 38 [(0, 9, 36), (0, 8, 29), (29, 0, 30), (29, 1, 31), (29, 2, 32), (29, 3, 33), (29, 4, 34), (29, 5, 35), (0, 7, 25), (25, 0, 26), (25, 1, 27), (25, 2, 28), (0, 6, 21), (21, 0, 22), (21, 1, 23), (21, 2, 24), (0, 5, 17), (17, 0, 18), (17, 1, 19), (17, 2, 20), (0, 4, 13), (13, 0, 14), (13, 1, 15), (13, 2, 16), (0, 3, 9), (9, 0, 10), (9, 1, 11), (9, 2, 12), (0, 2, 5), (5, 0, 6), (5, 1, 7), (5, 2, 8), (0, 1, 1), (1, 0, 2), (1, 1, 3), (1, 2, 4)] [] (gS G 0) (up2 zI 0 0 (nI 1)) zL M0 (wMk Mc28 (q + 37) 21 24) := hN.new 21 24 rfl ⟨by first | rfl | exact up2_row _ _ (by decide), rfl⟩
  generalize (wMk Mc28 (q + 37) 21 24) = Mc29 at hN ⊢
  refine r_putRF C fl_X0_45 (hini rfl) (fun r h => by cases h; rfl) rfl rfl rfl (show mK Mc29 q = 4 from (hN.1 0 (by decide)).1) dX0_init_111 ?_
  have hN : NB tbBk q 38 [(0, 10, 37), (0, 9, 36), (0, 8, 29), (29, 0, 30), (29, 1, 31), (29, 2, 32), (29, 3, 33), (29, 4, 34), (29, 5, 35), (0, 7, 25), (25, 0, 26), (25, 1, 27), (25, 2, 28), (0, 6, 21), (21, 0, 22), (21, 1, 23), (21, 2, 24), (0, 5, 17), (17, 0, 18), (17, 1, 19), (17, 2, 20), (0, 4, 13), (13, 0, 14), (13, 1, 15), (13, 2, 16), (0, 3, 9), (9, 0, 10), (9, 1, 11), (9, 2, 12), (0, 2, 5), (5, 0, 6), (5, 1, 7), (5, 2, 8), (0, 1, 1), (1, 0, 2), (1, 1, 3), (1, 2, 4)] [] (gS G 0) (up2 zI 0 0 (nI 1)) zL M0 (wR Mc29 q 10 (some (q + 37))) := hN.ref 0 10 37 rfl
  generalize (wR Mc29 q 10 (some (q + 37))) = Mc31 at hN ⊢
  refine r_aload_n C 0 dX0_init_114 rfl rfl ?_
  refine r_bipush C (v := nI 24) dX0_init_115 (by decide) ?_
  refine r_newarr C (q := q + 38) 1 (by decide) rfl ac_long (by decide) ((by omega)) (hN.2.1 _ (Nat.le_refl _)) (hN.2.2.1) (Nat.le_of_ble_eq_true rfl) (Nat.le_of_ble_eq_true rfl) dX0_init_117 ?_
  have hN : NB tbBk q 39 [(0, 10, 37), (0, 9, 36), (0, 8, 29), (29, 0, 30), (29, 1, 31), (29, 2, 32), (29, 3, 33), (29, 4, 34), (29, 5, 35), (0, 7, 25), (25, 0, 26), (25, 1, 27), (25, 2, 28), (0, 6, 21), (21, 0, 22), (21, 1, 23), (21, 2, 24), (0, 5, 17), (17, 0, 18), (17, 1, 19), (17, 2, 20), (0, 4, 13), (13, 0, 14), (13, 1, 15), (13, 2, 16), (0, 3, 9), (9, 0, 10), (9, 1, 11), (9, 2, 12), (0, 2, 5), (5, 0, 6), (5, 1, 7), (5, 2, 8), (0, 1, 1), (1, 0, 2), (1, 1, 3), (1, 2, 4)] [] (gS G 0) (up2 zI 0 0 (nI 1)) zL M0 (wMk Mc31 (q + 38) 21 24) := hN.new 21 24 rfl ⟨by first | rfl | exact up2_row _ _ (by decide), rfl⟩
  generalize (wMk Mc31 (q + 38) 21 24) = Mc32 at hN ⊢
  refine r_putRF C fl_X0_49 (hini rfl) (fun r h => by cases h; rfl) rfl rfl rfl (show mK Mc32 q = 4 from (hN.1 0 (by decide)).1) dX0_init_119 ?_
  have hN : NB tbBk q 39 [(0, 11, 38), (0, 10, 37), (0, 9, 36), (0, 8, 29), (29, 0, 30), (29, 1, 31), (29, 2, 32), (29, 3, 33), (29, 4, 34), (29, 5, 35), (0, 7, 25), (25, 0, 26), (25, 1, 27), (25, 2, 28), (0, 6, 21), (21, 0, 22), (21, 1, 23), (21, 2, 24), (0, 5, 17), (17, 0, 18), (17, 1, 19), (17, 2, 20), (0, 4, 13), (13, 0, 14), (13, 1, 15), (13, 2, 16), (0, 3, 9), (9, 0, 10), (9, 1, 11), (9, 2, 12), (0, 2, 5), (5, 0, 6), (5, 1, 7), (5, 2, 8), (0, 1, 1), (1, 0, 2), (1, 1, 3), (1, 2, 4)] [] (gS G 0) (up2 zI 0 0 (nI 1)) zL M0 (wR Mc32 q 11 (some (q + 38))) := hN.ref 0 11 38 rfl
  generalize (wR Mc32 q 11 (some (q + 38))) = Mc34 at hN ⊢
  refine r_aload_n C 0 dX0_init_122 rfl rfl ?_
  refine r_bipush C (v := nI 24) dX0_init_123 (by decide) ?_
  refine r_newarr C (q := q + 39) 1 (by decide) rfl ac_long (by decide) ((by omega)) (hN.2.1 _ (Nat.le_refl _)) (hN.2.2.1) (Nat.le_of_ble_eq_true rfl) (Nat.le_of_ble_eq_true rfl) dX0_init_125 ?_
  have hN : NB tbBk q 40 [(0, 11, 38), (0, 10, 37), (0, 9, 36), (0, 8, 29), (29, 0, 30), (29, 1, 31), (29, 2, 32), (29, 3, 33), (29, 4, 34), (29, 5, 35), (0, 7, 25), (25, 0, 26), (25, 1, 27), (25, 2, 28), (0, 6, 21), (21, 0, 22), (21, 1, 23), (21, 2, 24), (0, 5, 17), (17, 0, 18), (17, 1, 19), (17, 2, 20), (0, 4, 13), (13, 0, 14), (13, 1, 15), (13, 2, 16), (0, 3, 9), (9, 0, 10), (9, 1, 11), (9, 2, 12), (0, 2, 5), (5, 0, 6), (5, 1, 7), (5, 2, 8), (0, 1, 1), (1, 0, 2), (1, 1, 3), (1, 2, 4)] [] (gS G 0) (up2 zI 0 0 (nI 1)) zL M0 (wMk Mc34 (q + 39) 21 24) := hN.new 21 24 rfl ⟨by first | rfl | exact up2_row _ _ (by decide), rfl⟩
  generalize (wMk Mc34 (q + 39) 21 24) = Mc35 at hN ⊢
  refine r_putRF C fl_X0_52 (hini rfl) (fun r h => by cases h; rfl) rfl rfl rfl (show mK Mc35 q = 4 from (hN.1 0 (by decide)).1) dX0_init_127 ?_
  have hN : NB tbBk q 40 [(0, 12, 39), (0, 11, 38), (0, 10, 37), (0, 9, 36), (0, 8, 29), (29, 0, 30), (29, 1, 31), (29, 2, 32), (29, 3, 33), (29, 4, 34), (29, 5, 35), (0, 7, 25), (25, 0, 26), (25, 1, 27), (25, 2, 28), (0, 6, 21), (21, 0, 22), (21, 1, 23), (21, 2, 24), (0, 5, 17), (17, 0, 18), (17, 1, 19), (17, 2, 20), (0, 4, 13), (13, 0, 14), (13, 1, 15), (13, 2, 16), (0, 3, 9), (9, 0, 10), (9, 1, 11), (9, 2, 12), (0, 2, 5), (5, 0, 6), (5, 1, 7), (5, 2, 8), (0, 1, 1), (1, 0, 2), (1, 1, 3), (1, 2, 4)] [] (gS G 0) (up2 zI 0 0 (nI 1)) zL M0 (wR Mc35 q 12 (some (q + 39))) := hN.ref 0 12 39 rfl
  generalize (wR Mc35 q 12 (some (q + 39))) = Mc37 at hN ⊢
  refine r_aload_n C 0 dX0_init_130 rfl rfl ?_
  refine r_bipush C (v := nI 24) dX0_init_131 (by decide) ?_
  refine r_newarr C (q := q + 40) 1 (by decide) rfl ac_long (by decide) ((by omega)) (hN.2.1 _ (Nat.le_refl _)) (hN.2.2.1) (Nat.le_of_ble_eq_true rfl) (Nat.le_of_ble_eq_true rfl) dX0_init_133 ?_
  have hN : NB tbBk q 41 [(0, 12, 39), (0, 11, 38), (0, 10, 37), (0, 9, 36), (0, 8, 29), (29, 0, 30), (29, 1, 31), (29, 2, 32), (29, 3, 33), (29, 4, 34), (29, 5, 35), (0, 7, 25), (25, 0, 26), (25, 1, 27), (25, 2, 28), (0, 6, 21), (21, 0, 22), (21, 1, 23), (21, 2, 24), (0, 5, 17), (17, 0, 18), (17, 1, 19), (17, 2, 20), (0, 4, 13), (13, 0, 14), (13, 1, 15), (13, 2, 16), (0, 3, 9), (9, 0, 10), (9, 1, 11), (9, 2, 12), (0, 2, 5), (5, 0, 6), (5, 1, 7), (5, 2, 8), (0, 1, 1), (1, 0, 2), (1, 1, 3), (1, 2, 4)] [] (gS G 0) (up2 zI 0 0 (nI 1)) zL M0 (wMk Mc37 (q + 40) 21 24) := hN.new 21 24 rfl ⟨by first | rfl | exact up2_row _ _ (by decide), rfl⟩
  generalize (wMk Mc37 (q + 40) 21 24) = Mc38 at hN ⊢
  refine r_putRF C fl_X0_55 (hini rfl) (fun r h => by cases h; rfl) rfl rfl rfl (show mK Mc38 q = 4 from (hN.1 0 (by decide)).1) dX0_init_135 ?_
  have hN : NB tbBk q 41 [(0, 13, 40), (0, 12, 39), (0, 11, 38), (0, 10, 37), (0, 9, 36), (0, 8, 29), (29, 0, 30), (29, 1, 31), (29, 2, 32), (29, 3, 33), (29, 4, 34), (29, 5, 35), (0, 7, 25), (25, 0, 26), (25, 1, 27), (25, 2, 28), (0, 6, 21), (21, 0, 22), (21, 1, 23), (21, 2, 24), (0, 5, 17), (17, 0, 18), (17, 1, 19), (17, 2, 20), (0, 4, 13), (13, 0, 14), (13, 1, 15), (13, 2, 16), (0, 3, 9), (9, 0, 10), (9, 1, 11), (9, 2, 12), (0, 2, 5), (5, 0, 6), (5, 1, 7), (5, 2, 8), (0, 1, 1), (1, 0, 2), (1, 1, 3), (1, 2, 4)] [] (gS G 0) (up2 zI 0 0 (nI 1)) zL M0 (wR Mc38 q 13 (some (q + 40))) := hN.ref 0 13 40 rfl
  generalize (wR Mc38 q 13 (some (q + 40))) = Mc40 at hN ⊢
  refine r_aload_n C 0 dX0_init_138 rfl rfl ?_
  refine r_bipush C (v := nI 24) dX0_init_139 (by decide) ?_
  refine r_newarr C (q := q + 41) 1 (by decide) rfl ac_long (by decide) ((by omega)) (hN.2.1 _ (Nat.le_refl _)) (hN.2.2.1) (Nat.le_of_ble_eq_true rfl) (Nat.le_of_ble_eq_true rfl) dX0_init_141 ?_
  have hN : NB tbBk q 42 [(0, 13, 40), (0, 12, 39), (0, 11, 38), (0, 10, 37), (0, 9, 36), (0, 8, 29), (29, 0, 30), (29, 1, 31), (29, 2, 32), (29, 3, 33), (29, 4, 34), (29, 5, 35), (0, 7, 25), (25, 0, 26), (25, 1, 27), (25, 2, 28), (0, 6, 21), (21, 0, 22), (21, 1, 23), (21, 2, 24), (0, 5, 17), (17, 0, 18), (17, 1, 19), (17, 2, 20), (0, 4, 13), (13, 0, 14), (13, 1, 15), (13, 2, 16), (0, 3, 9), (9, 0, 10), (9, 1, 11), (9, 2, 12), (0, 2, 5), (5, 0, 6), (5, 1, 7), (5, 2, 8), (0, 1, 1), (1, 0, 2), (1, 1, 3), (1, 2, 4)] [] (gS G 0) (up2 zI 0 0 (nI 1)) zL M0 (wMk Mc40 (q + 41) 21 24) := hN.new 21 24 rfl ⟨by first | rfl | exact up2_row _ _ (by decide), rfl⟩
  generalize (wMk Mc40 (q + 41) 21 24) = Mc41 at hN ⊢
  refine r_putRF C fl_X0_58 (hini rfl) (fun r h => by cases h; rfl) rfl rfl rfl (show mK Mc41 q = 4 from (hN.1 0 (by decide)).1) dX0_init_143 ?_
  have hN : NB tbBk q 42 [(0, 14, 41), (0, 13, 40), (0, 12, 39), (0, 11, 38), (0, 10, 37), (0, 9, 36), (0, 8, 29), (29, 0, 30), (29, 1, 31), (29, 2, 32), (29, 3, 33), (29, 4, 34), (29, 5, 35), (0, 7, 25), (25, 0, 26), (25, 1, 27), (25, 2, 28), (0, 6, 21), (21, 0, 22), (21, 1, 23), (21, 2, 24), (0, 5, 17), (17, 0, 18), (17, 1, 19), (17, 2, 20), (0, 4, 13), (13, 0, 14), (13, 1, 15), (13, 2, 16), (0, 3, 9), (9, 0, 10), (9, 1, 11), (9, 2, 12), (0, 2, 5), (5, 0, 6), (5, 1, 7), (5, 2, 8), (0, 1, 1), (1, 0, 2), (1, 1, 3), (1, 2, 4)] [] (gS G 0) (up2 zI 0 0 (nI 1)) zL M0 (wR Mc41 q 14 (some (q + 41))) := hN.ref 0 14 41 rfl
  generalize (wR Mc41 q 14 (some (q + 41))) = Mc43 at hN ⊢
  exact r_vret C hr (⟨rfl, hN⟩) (by first | exact Nat.zero_le _ | decide) (by first | exact Nat.zero_le _ | decide) dX0_init_146
set_option maxHeartbeats 1000000 in
set_option maxRecDepth 100000 in
theorem c_X1_init (l : Launch) (hfl : l.flags = flags0) (G : gW) (M : Mem) (M0 : Mem) (q : Nat) (hgq : gB G ≤ q) (h : NB tbBr q 1 [] [] (gS G 0) zI zL M0 M) : CT l yX1_init cX1_init 1 none 1 11 224 12 G M [.ref q] (fun v M' => v = none ∧ NB tbBr q 12 [(0, 2, 7), (7, 0, 8), (7, 1, 9), (7, 2, 10), (7, 3, 11), (0, 1, 2), (2, 0, 3), (2, 1, 4), (2, 2, 5), (2, 3, 6), (0, 0, 1)] [] (gS G 0) zI zL M0 M') := by
  refine CT.of hfl rfl (Nat.le_of_ble_eq_true rfl) ?_
  intro pp ee ss mm ar bw mt cd C hgX hr hini
  have hN := h
  refine V.eLo (lo' := [(0, .ref q)]) rfl ?_
  refine r_aload_n C 0 dX1_init_0 rfl rfl ?_
  refine r_objInit C oi_X1 oi_im oi_cd dX1_init_1 (Nat.le_of_ble_eq_true rfl) (Nat.le_of_ble_eq_true rfl) ?_
  refine r_aload_n C 0 dX1_init_4 rfl rfl ?_
  refine r_bipush C (v := nI 24) dX1_init_5 (by decide) ?_
  refine r_newarr C (q := q + 1) 0 (by decide) rfl ac_int (by decide) ((by omega)) (hN.2.1 _ (Nat.le_refl _)) (hN.2.2.1) (Nat.le_of_ble_eq_true rfl) (Nat.le_of_ble_eq_true rfl) dX1_init_7 ?_
  have hN : NB tbBr q 2 [] [] (gS G 0) zI zL M0 (wMk M (q + 1) 20 24) := hN.new 20 24 rfl ⟨by first | rfl | exact up2_row _ _ (by decide), rfl⟩
  generalize (wMk M (q + 1) 20 24) = Mc1 at hN ⊢
  refine r_putRF C fl_X1_9 (hini rfl) (fun r h => by cases h; rfl) rfl rfl rfl (show mK Mc1 q = 5 from (hN.1 0 (by decide)).1) dX1_init_9 ?_
  have hN : NB tbBr q 2 [(0, 0, 1)] [] (gS G 0) zI zL M0 (wR Mc1 q 0 (some (q + 1))) := hN.ref 0 0 1 rfl
  generalize (wR Mc1 q 0 (some (q + 1))) = Mc3 at hN ⊢
  refine r_aload_n C 0 dX1_init_12 rfl rfl ?_
  refine r_iconst C (v := nI 4) dX1_init_13 (by decide) ?_
  refine r_bipush C (v := nI 24) dX1_init_14 (by decide) ?_
  refine r_multi C hgX (q := q + 2) (n := 4) (k := 24) (j := 0) (by decide) cl_X1_15 (by decide) ac_int (by decide) (by decide) ((by omega)) (hN.2.1 _ (Nat.le_refl _)) (hN.2.2.1) (Nat.le_of_ble_eq_true rfl) (Nat.le_of_ble_eq_true rfl) dX1_init_16 ?_
  have hN : NB tbBr q 7 [(2, 0, 3), (2, 1, 4), (2, 2, 5), (2, 3, 6), (0, 0, 1)] [] (gS G 0) zI zL M0 (wMul Mc3 (q + 2) 27 20 4 24) := hN.multi 27 20 4 24 rfl (fun o_ h_ => ⟨rfl, rfl⟩)
  generalize (wMul Mc3 (q + 2) 27 20 4 24) = Mc4 at hN ⊢
  refine r_putRF C fl_X1_17 (hini rfl) (fun r h => by cases h; rfl) rfl rfl rfl (show mK Mc4 q = 5 from (hN.1 0 (by decide)).1) dX1_init_20 ?_
  have hN : NB tbBr q 7 [(0, 1, 2), (2, 0, 3), (2, 1, 4), (2, 2, 5), (2, 3, 6), (0, 0, 1)] [] (gS G 0) zI zL M0 (wR Mc4 q 1 (some (q + 2))) := hN.ref 0 1 2 rfl
  generalize (wR Mc4 q 1 (some (q + 2))) = Mc6 at hN ⊢
  refine r_aload_n C 0 dX1_init_23 rfl rfl ?_
  refine r_iconst C (v := nI 4) dX1_init_24 (by decide) ?_
  refine r_bipush C (v := nI 24) dX1_init_25 (by decide) ?_
  refine r_multi C hgX (q := q + 7) (n := 4) (k := 24) (j := 0) (by decide) cl_X1_15 (by decide) ac_int (by decide) (by decide) ((by omega)) (hN.2.1 _ (Nat.le_refl _)) (hN.2.2.1) (Nat.le_of_ble_eq_true rfl) (Nat.le_of_ble_eq_true rfl) dX1_init_27 ?_
  have hN : NB tbBr q 12 [(7, 0, 8), (7, 1, 9), (7, 2, 10), (7, 3, 11), (0, 1, 2), (2, 0, 3), (2, 1, 4), (2, 2, 5), (2, 3, 6), (0, 0, 1)] [] (gS G 0) zI zL M0 (wMul Mc6 (q + 7) 27 20 4 24) := hN.multi 27 20 4 24 rfl (fun o_ h_ => ⟨rfl, rfl⟩)
  generalize (wMul Mc6 (q + 7) 27 20 4 24) = Mc7 at hN ⊢
  refine r_putRF C fl_X1_20 (hini rfl) (fun r h => by cases h; rfl) rfl rfl rfl (show mK Mc7 q = 5 from (hN.1 0 (by decide)).1) dX1_init_31 ?_
  have hN : NB tbBr q 12 [(0, 2, 7), (7, 0, 8), (7, 1, 9), (7, 2, 10), (7, 3, 11), (0, 1, 2), (2, 0, 3), (2, 1, 4), (2, 2, 5), (2, 3, 6), (0, 0, 1)] [] (gS G 0) zI zL M0 (wR Mc7 q 2 (some (q + 7))) := hN.ref 0 2 7 rfl
  generalize (wR Mc7 q 2 (some (q + 7))) = Mc9 at hN ⊢
  exact r_vret C hr (⟨rfl, hN⟩) (by first | exact Nat.zero_le _ | decide) (by first | exact Nat.zero_le _ | decide) dX1_init_34
set_option maxHeartbeats 1000000 in
set_option maxRecDepth 100000 in
theorem c_X4_init (l : Launch) (hfl : l.flags = flags0) (G : gW) (M : Mem) (M0 : Mem) (q : Nat) (hgq : gB G ≤ q) (h : NB tbEl q 1 [] [] (gS G 0) zI zL M0 M) : CT l yX4_init cX4_init 1 none 1 22 196 12 G M [.ref q] (fun v M' => v = none ∧ NB tbEl q 23 [(0, 9, 22), (0, 8, 21), (0, 7, 20), (0, 6, 19), (0, 5, 18), (0, 4, 17), (0, 3, 9), (9, 0, 10), (9, 1, 11), (9, 2, 12), (9, 3, 13), (9, 4, 14), (9, 5, 15), (9, 6, 16), (0, 2, 1), (1, 0, 2), (1, 1, 3), (1, 2, 4), (1, 3, 5), (1, 4, 6), (1, 5, 7), (1, 6, 8)] [] (gS G 0) zI zL M0 M') := by
  refine CT.of hfl rfl (Nat.le_of_ble_eq_true rfl) ?_
  intro pp ee ss mm ar bw mt cd C hgX hr hini
  have hN := h
  refine V.eLo (lo' := [(0, .ref q)]) rfl ?_
  refine r_aload_n C 0 dX4_init_0 rfl rfl ?_
  refine r_objInit C oi_X4 oi_im oi_cd dX4_init_1 (Nat.le_of_ble_eq_true rfl) (Nat.le_of_ble_eq_true rfl) ?_
  refine r_aload_n C 0 dX4_init_4 rfl rfl ?_
  refine r_bipush C (v := nI 7) dX4_init_5 (by decide) ?_
  refine r_bipush C (v := nI 10) dX4_init_7 (by decide) ?_
  refine r_multi C hgX (q := q + 1) (n := 7) (k := 10) (j := 0) (by decide) cl_X4_11 (by decide) ac_int (by decide) (by decide) ((by omega)) (hN.2.1 _ (Nat.le_refl _)) (hN.2.2.1) (Nat.le_of_ble_eq_true rfl) (Nat.le_of_ble_eq_true rfl) dX4_init_9 ?_
  have hN : NB tbEl q 9 [(1, 0, 2), (1, 1, 3), (1, 2, 4), (1, 3, 5), (1, 4, 6), (1, 5, 7), (1, 6, 8)] [] (gS G 0) zI zL M0 (wMul M (q + 1) 27 20 7 10) := hN.multi 27 20 7 10 rfl (fun o_ h_ => ⟨rfl, rfl⟩)
  generalize (wMul M (q + 1) 27 20 7 10) = Mc1 at hN ⊢
  refine r_putRF C fl_X4_13 (hini rfl) (fun r h => by cases h; rfl) rfl rfl rfl (show mK Mc1 q = 7 from (hN.1 0 (by decide)).1) dX4_init_13 ?_
  have hN : NB tbEl q 9 [(0, 2, 1), (1, 0, 2), (1, 1, 3), (1, 2, 4), (1, 3, 5), (1, 4, 6), (1, 5, 7), (1, 6, 8)] [] (gS G 0) zI zL M0 (wR Mc1 q 2 (some (q + 1))) := hN.ref 0 2 1 rfl
  generalize (wR Mc1 q 2 (some (q + 1))) = Mc3 at hN ⊢
  refine r_aload_n C 0 dX4_init_16 rfl rfl ?_
  refine r_bipush C (v := nI 7) dX4_init_17 (by decide) ?_
  refine r_bipush C (v := nI 10) dX4_init_19 (by decide) ?_
  refine r_multi C hgX (q := q + 9) (n := 7) (k := 10) (j := 0) (by decide) cl_X4_11 (by decide) ac_int (by decide) (by decide) ((by omega)) (hN.2.1 _ (Nat.le_refl _)) (hN.2.2.1) (Nat.le_of_ble_eq_true rfl) (Nat.le_of_ble_eq_true rfl) dX4_init_21 ?_
  have hN : NB tbEl q 17 [(9, 0, 10), (9, 1, 11), (9, 2, 12), (9, 3, 13), (9, 4, 14), (9, 5, 15), (9, 6, 16), (0, 2, 1), (1, 0, 2), (1, 1, 3), (1, 2, 4), (1, 3, 5), (1, 4, 6), (1, 5, 7), (1, 6, 8)] [] (gS G 0) zI zL M0 (wMul Mc3 (q + 9) 27 20 7 10) := hN.multi 27 20 7 10 rfl (fun o_ h_ => ⟨rfl, rfl⟩)
  generalize (wMul Mc3 (q + 9) 27 20 7 10) = Mc4 at hN ⊢
  refine r_putRF C fl_X4_16 (hini rfl) (fun r h => by cases h; rfl) rfl rfl rfl (show mK Mc4 q = 7 from (hN.1 0 (by decide)).1) dX4_init_25 ?_
  have hN : NB tbEl q 17 [(0, 3, 9), (9, 0, 10), (9, 1, 11), (9, 2, 12), (9, 3, 13), (9, 4, 14), (9, 5, 15), (9, 6, 16), (0, 2, 1), (1, 0, 2), (1, 1, 3), (1, 2, 4), (1, 3, 5), (1, 4, 6), (1, 5, 7), (1, 6, 8)] [] (gS G 0) zI zL M0 (wR Mc4 q 3 (some (q + 9))) := hN.ref 0 3 9 rfl
  generalize (wR Mc4 q 3 (some (q + 9))) = Mc6 at hN ⊢
  refine r_aload_n C 0 dX4_init_28 rfl rfl ?_
  refine r_bipush C (v := nI 7) dX4_init_29 (by decide) ?_
  refine r_newarr C (q := q + 17) 0 (by decide) rfl ac_int (by decide) ((by omega)) (hN.2.1 _ (Nat.le_refl _)) (hN.2.2.1) (Nat.le_of_ble_eq_true rfl) (Nat.le_of_ble_eq_true rfl) dX4_init_31 ?_
  have hN : NB tbEl q 18 [(0, 3, 9), (9, 0, 10), (9, 1, 11), (9, 2, 12), (9, 3, 13), (9, 4, 14), (9, 5, 15), (9, 6, 16), (0, 2, 1), (1, 0, 2), (1, 1, 3), (1, 2, 4), (1, 3, 5), (1, 4, 6), (1, 5, 7), (1, 6, 8)] [] (gS G 0) zI zL M0 (wMk Mc6 (q + 17) 20 7) := hN.new 20 7 rfl ⟨by first | rfl | exact up2_row _ _ (by decide), rfl⟩
  generalize (wMk Mc6 (q + 17) 20 7) = Mc7 at hN ⊢
  refine r_putRF C fl_X4_19 (hini rfl) (fun r h => by cases h; rfl) rfl rfl rfl (show mK Mc7 q = 7 from (hN.1 0 (by decide)).1) dX4_init_33 ?_
  have hN : NB tbEl q 18 [(0, 4, 17), (0, 3, 9), (9, 0, 10), (9, 1, 11), (9, 2, 12), (9, 3, 13), (9, 4, 14), (9, 5, 15), (9, 6, 16), (0, 2, 1), (1, 0, 2), (1, 1, 3), (1, 2, 4), (1, 3, 5), (1, 4, 6), (1, 5, 7), (1, 6, 8)] [] (gS G 0) zI zL M0 (wR Mc7 q 4 (some (q + 17))) := hN.ref 0 4 17 rfl
  generalize (wR Mc7 q 4 (some (q + 17))) = Mc9 at hN ⊢
  refine r_aload_n C 0 dX4_init_36 rfl rfl ?_
  refine r_bipush C (v := nI 7) dX4_init_37 (by decide) ?_
  refine r_newarr C (q := q + 18) 0 (by decide) rfl ac_int (by decide) ((by omega)) (hN.2.1 _ (Nat.le_refl _)) (hN.2.2.1) (Nat.le_of_ble_eq_true rfl) (Nat.le_of_ble_eq_true rfl) dX4_init_39 ?_
  have hN : NB tbEl q 19 [(0, 4, 17), (0, 3, 9), (9, 0, 10), (9, 1, 11), (9, 2, 12), (9, 3, 13), (9, 4, 14), (9, 5, 15), (9, 6, 16), (0, 2, 1), (1, 0, 2), (1, 1, 3), (1, 2, 4), (1, 3, 5), (1, 4, 6), (1, 5, 7), (1, 6, 8)] [] (gS G 0) zI zL M0 (wMk Mc9 (q + 18) 20 7) := hN.new 20 7 rfl ⟨by first | rfl | exact up2_row _ _ (by decide), rfl⟩
  generalize (wMk Mc9 (q + 18) 20 7) = Mc10 at hN ⊢
  refine r_putRF C fl_X4_23 (hini rfl) (fun r h => by cases h; rfl) rfl rfl rfl (show mK Mc10 q = 7 from (hN.1 0 (by decide)).1) dX4_init_41 ?_
  have hN : NB tbEl q 19 [(0, 5, 18), (0, 4, 17), (0, 3, 9), (9, 0, 10), (9, 1, 11), (9, 2, 12), (9, 3, 13), (9, 4, 14), (9, 5, 15), (9, 6, 16), (0, 2, 1), (1, 0, 2), (1, 1, 3), (1, 2, 4), (1, 3, 5), (1, 4, 6), (1, 5, 7), (1, 6, 8)] [] (gS G 0) zI zL M0 (wR Mc10 q 5 (some (q + 18))) := hN.ref 0 5 18 rfl
  generalize (wR Mc10 q 5 (some (q + 18))) = Mc12 at hN ⊢
  refine r_aload_n C 0 dX4_init_44 rfl rfl ?_
  refine r_bipush C (v := nI 6) dX4_init_45 (by decide) ?_
  refine r_newarr C (q := q + 19) 0 (by decide) rfl ac_int (by decide) ((by omega)) (hN.2.1 _ (Nat.le_refl _)) (hN.2.2.1) (Nat.le_of_ble_eq_true rfl) (Nat.le_of_ble_eq_true rfl) dX4_init_47 ?_
  have hN : NB tbEl q 20 [(0, 5, 18), (0, 4, 17), (0, 3, 9), (9, 0, 10), (9, 1, 11), (9, 2, 12), (9, 3, 13), (9, 4, 14), (9, 5, 15), (9, 6, 16), (0, 2, 1), (1, 0, 2), (1, 1, 3), (1, 2, 4), (1, 3, 5), (1, 4, 6), (1, 5, 7), (1, 6, 8)] [] (gS G 0) zI zL M0 (wMk Mc12 (q + 19) 20 6) := hN.new 20 6 rfl ⟨by first | rfl | exact up2_row _ _ (by decide), rfl⟩
  generalize (wMk Mc12 (q + 19) 20 6) = Mc13 at hN ⊢
  refine r_putRF C fl_X4_26 (hini rfl) (fun r h => by cases h; rfl) rfl rfl rfl (show mK Mc13 q = 7 from (hN.1 0 (by decide)).1) dX4_init_49 ?_
  have hN : NB tbEl q 20 [(0, 6, 19), (0, 5, 18), (0, 4, 17), (0, 3, 9), (9, 0, 10), (9, 1, 11), (9, 2, 12), (9, 3, 13), (9, 4, 14), (9, 5, 15), (9, 6, 16), (0, 2, 1), (1, 0, 2), (1, 1, 3), (1, 2, 4), (1, 3, 5), (1, 4, 6), (1, 5, 7), (1, 6, 8)] [] (gS G 0) zI zL M0 (wR Mc13 q 6 (some (q + 19))) := hN.ref 0 6 19 rfl
  generalize (wR Mc13 q 6 (some (q + 19))) = Mc15 at hN ⊢
  refine r_aload_n C 0 dX4_init_52 rfl rfl ?_
  refine r_bipush C (v := nI 6) dX4_init_53 (by decide) ?_
  refine r_newarr C (q := q + 20) 0 (by decide) rfl ac_int (by decide) ((by omega)) (hN.2.1 _ (Nat.le_refl _)) (hN.2.2.1) (Nat.le_of_ble_eq_true rfl) (Nat.le_of_ble_eq_true rfl) dX4_init_55 ?_
  have hN : NB tbEl q 21 [(0, 6, 19), (0, 5, 18), (0, 4, 17), (0, 3, 9), (9, 0, 10), (9, 1, 11), (9, 2, 12), (9, 3, 13), (9, 4, 14), (9, 5, 15), (9, 6, 16), (0, 2, 1), (1, 0, 2), (1, 1, 3), (1, 2, 4), (1, 3, 5), (1, 4, 6), (1, 5, 7), (1, 6, 8)] [] (gS G 0) zI zL M0 (wMk Mc15 (q + 20) 20 6) := hN.new 20 6 rfl ⟨by first | rfl | exact up2_row _ _ (by decide), rfl⟩
  generalize (wMk Mc15 (q + 20) 20 6) = Mc16 at hN ⊢
  refine r_putRF C fl_X4_29 (hini rfl) (fun r h => by cases h; rfl) rfl rfl rfl (show mK Mc16 q = 7 from (hN.1 0 (by decide)).1) dX4_init_57 ?_
  have hN : NB tbEl q 21 [(0, 7, 20), (0, 6, 19), (0, 5, 18), (0, 4, 17), (0, 3, 9), (9, 0, 10), (9, 1, 11), (9, 2, 12), (9, 3, 13), (9, 4, 14), (9, 5, 15), (9, 6, 16), (0, 2, 1), (1, 0, 2), (1, 1, 3), (1, 2, 4), (1, 3, 5), (1, 4, 6), (1, 5, 7), (1, 6, 8)] [] (gS G 0) zI zL M0 (wR Mc16 q 7 (some (q + 20))) := hN.ref 0 7 20 rfl
  generalize (wR Mc16 q 7 (some (q + 20))) = Mc18 at hN ⊢
  refine r_aload_n C 0 dX4_init_60 rfl rfl ?_
  refine r_bipush C (v := nI 6) dX4_init_61 (by decide) ?_
  refine r_newarr C (q := q + 21) 1 (by decide) rfl ac_long (by decide) ((by omega)) (hN.2.1 _ (Nat.le_refl _)) (hN.2.2.1) (Nat.le_of_ble_eq_true rfl) (Nat.le_of_ble_eq_true rfl) dX4_init_63 ?_
  have hN : NB tbEl q 22 [(0, 7, 20), (0, 6, 19), (0, 5, 18), (0, 4, 17), (0, 3, 9), (9, 0, 10), (9, 1, 11), (9, 2, 12), (9, 3, 13), (9, 4, 14), (9, 5, 15), (9, 6, 16), (0, 2, 1), (1, 0, 2), (1, 1, 3), (1, 2, 4), (1, 3, 5), (1, 4, 6), (1, 5, 7), (1, 6, 8)] [] (gS G 0) zI zL M0 (wMk Mc18 (q + 21) 21 6) := hN.new 21 6 rfl ⟨by first | rfl | exact up2_row _ _ (by decide), rfl⟩
  generalize (wMk Mc18 (q + 21) 21 6) = Mc19 at hN ⊢
  refine r_putRF C fl_X4_32 (hini rfl) (fun r h => by cases h; rfl) rfl rfl rfl (show mK Mc19 q = 7 from (hN.1 0 (by decide)).1) dX4_init_65 ?_
  have hN : NB tbEl q 22 [(0, 8, 21), (0, 7, 20), (0, 6, 19), (0, 5, 18), (0, 4, 17), (0, 3, 9), (9, 0, 10), (9, 1, 11), (9, 2, 12), (9, 3, 13), (9, 4, 14), (9, 5, 15), (9, 6, 16), (0, 2, 1), (1, 0, 2), (1, 1, 3), (1, 2, 4), (1, 3, 5), (1, 4, 6), (1, 5, 7), (1, 6, 8)] [] (gS G 0) zI zL M0 (wR Mc19 q 8 (some (q + 21))) := hN.ref 0 8 21 rfl
  generalize (wR Mc19 q 8 (some (q + 21))) = Mc21 at hN ⊢
  refine r_aload_n C 0 dX4_init_68 rfl rfl ?_
  refine r_bipush C (v := nI 10) dX4_init_69 (by decide) ?_
  refine r_newarr C (q := q + 22) 1 (by decide) rfl ac_long (by decide) ((by omega)) (hN.2.1 _ (Nat.le_refl _)) (hN.2.2.1) (Nat.le_of_ble_eq_true rfl) (Nat.le_of_ble_eq_true rfl) dX4_init_71 ?_
  have hN : NB tbEl q 23 [(0, 8, 21), (0, 7, 20), (0, 6, 19), (0, 5, 18), (0, 4, 17), (0, 3, 9), (9, 0, 10), (9, 1, 11), (9, 2, 12), (9, 3, 13), (9, 4, 14), (9, 5, 15), (9, 6, 16), (0, 2, 1), (1, 0, 2), (1, 1, 3), (1, 2, 4), (1, 3, 5), (1, 4, 6), (1, 5, 7), (1, 6, 8)] [] (gS G 0) zI zL M0 (wMk Mc21 (q + 22) 21 10) := hN.new 21 10 rfl ⟨by first | rfl | exact up2_row _ _ (by decide), rfl⟩
  generalize (wMk Mc21 (q + 22) 21 10) = Mc22 at hN ⊢
  refine r_putRF C fl_X4_36 (hini rfl) (fun r h => by cases h; rfl) rfl rfl rfl (show mK Mc22 q = 7 from (hN.1 0 (by decide)).1) dX4_init_73 ?_
  have hN : NB tbEl q 23 [(0, 9, 22), (0, 8, 21), (0, 7, 20), (0, 6, 19), (0, 5, 18), (0, 4, 17), (0, 3, 9), (9, 0, 10), (9, 1, 11), (9, 2, 12), (9, 3, 13), (9, 4, 14), (9, 5, 15), (9, 6, 16), (0, 2, 1), (1, 0, 2), (1, 1, 3), (1, 2, 4), (1, 3, 5), (1, 4, 6), (1, 5, 7), (1, 6, 8)] [] (gS G 0) zI zL M0 (wR Mc22 q 9 (some (q + 22))) := hN.ref 0 9 22 rfl
  generalize (wR Mc22 q 9 (some (q + 22))) = Mc24 at hN ⊢
  exact r_vret C hr (⟨rfl, hN⟩) (by first | exact Nat.zero_le _ | decide) (by first | exact Nat.zero_le _ | decide) dX4_init_76
set_option maxHeartbeats 1000000 in
set_option maxRecDepth 100000 in
theorem c_X8_init (l : Launch) (hfl : l.flags = flags0) (G : gW) (M : Mem) (M0 : Mem) (q : Nat) (hgq : gB G ≤ q) (h : NB tbPe q 1 [] [] (gS G 0) zI zL M0 M) (a1 : Int32) : CT l yX8_init cX8_init 2 none 4 56 1042 72 G M [.ref q, .int a1] (fun v M' => v = none ∧ NB tbPe q 57 [(0, 10, 15), (15, 14, 56), (15, 13, 55), (15, 12, 54), (15, 11, 53), (15, 10, 52), (15, 9, 51), (15, 8, 44), (44, 0, 45), (44, 1, 46), (44, 2, 47), (44, 3, 48), (44, 4, 49), (44, 5, 50), (15, 7, 40), (40, 0, 41), (40, 1, 42), (40, 2, 43), (15, 6, 36), (36, 0, 37), (36, 1, 38), (36, 2, 39), (15, 5, 32), (32, 0, 33), (32, 1, 34), (32, 2, 35), (15, 4, 28), (28, 0, 29), (28, 1, 30), (28, 2, 31), (15, 3, 24), (24, 0, 25), (24, 1, 26), (24, 2, 27), (15, 2, 20), (20, 0, 21), (20, 1, 22), (20, 2, 23), (15, 1, 16), (16, 0, 17), (16, 1, 18), (16, 2, 19), (0, 7, 14), (0, 6, 10), (10, 0, 11), (10, 1, 12), (10, 2, 13), (0, 5, 7), (7, 1, 9), (7, 0, 8), (0, 4, 4), (4, 1, 6), (4, 0, 5), (0, 3, 3), (0, 2, 2), (0, 1, 1)] [3, 2, 1] (gS G 0) (up2 (up2 zI 15 0 (nI 1)) 0 0 a1) zL M0 M') := by
  refine CT.of hfl rfl (Nat.le_of_ble_eq_true rfl) ?_
  intro pp ee ss mm ar bw mt cd C hgX hr hini
  have hN := h
  refine V.eLo (lo' := [(0, .ref q), (1, .int a1)]) rfl ?_
  refine r_aload_n C 0 dX8_init_0 rfl rfl ?_
  refine r_objInit C oi_X8 oi_im oi_cd dX8_init_1 (Nat.le_of_ble_eq_true rfl) (Nat.le_of_ble_eq_true rfl) ?_
  refine r_aload_n C 0 dX8_init_4 rfl rfl ?_
  refine r_new C (q := q + 1) nl_X8_9 ((by omega)) (hN.2.1 _ (Nat.le_refl _)) (hN.2.2.1) (Nat.le_of_ble_eq_true rfl) (Nat.le_of_ble_eq_true rfl) dX8_init_5 ?_
  have hC := NB.cell (T := tbA) (e0 := gS G 0) (q := q + 1) hN.2.1 (κ := 3) ⟨rfl, rfl⟩
  generalize (wMk M (q + 1) 3 0) = Mc1 at hC ⊢
  refine r_dup C dX8_init_8 rfl ?_
  refine r_callI C hgX ml_X8_11 im_Jx4a65c_init_da8c8 rfl (c_Jx4a65c_init_da8c8 l hfl G Mc1 M (q + 1) (by omega) hC) rfl (Nat.le_of_ble_eq_true rfl) ⟨Nat.le_of_ble_eq_true rfl, Nat.le_of_ble_eq_true rfl⟩ ⟨Nat.le_of_ble_eq_true rfl, Nat.le_of_ble_eq_true rfl⟩ dX8_init_9 rfl ?_
  rintro _ My2 ⟨rfl, hS⟩
  have hN := hN.sub hS (by decide +kernel)
  have hN : NB tbPe q 2 [] [1] (gS G 0) zI zL M0 My2 := hN.v (fun o_ _ => congrFun (gl0I (fun o_ h_ => rfl)) o_) (fun o_ _ => congrFun (gl0L (fun _ _ => rfl)) o_)
  refine r_putRF C fl_X8_12 (hini rfl) (fun r h => by cases h; rfl) rfl rfl rfl (show mK My2 q = 11 from (hN.1 0 (by decide)).1) dX8_init_12 ?_
  have hN : NB tbPe q 2 [(0, 1, 1)] [1] (gS G 0) zI zL M0 (wR My2 q 1 (some (q + 1))) := hN.ref 0 1 1 rfl
  generalize (wR My2 q 1 (some (q + 1))) = Mc4 at hN ⊢
  refine r_aload_n C 0 dX8_init_15 rfl rfl ?_
  refine r_new C (q := q + 2) nl_X8_9 ((by omega)) (hN.2.1 _ (Nat.le_refl _)) (hN.2.2.1) (Nat.le_of_ble_eq_true rfl) (Nat.le_of_ble_eq_true rfl) dX8_init_16 ?_
  have hC := NB.cell (T := tbA) (e0 := gS G 0) (q := q + 2) hN.2.1 (κ := 3) ⟨rfl, rfl⟩
  generalize (wMk Mc4 (q + 2) 3 0) = Mc5 at hC ⊢
  refine r_dup C dX8_init_19 rfl ?_
  refine r_callI C hgX ml_X8_11 im_Jx4a65c_init_da8c8 rfl (c_Jx4a65c_init_da8c8 l hfl G Mc5 Mc4 (q + 2) (by omega) hC) rfl (Nat.le_of_ble_eq_true rfl) ⟨Nat.le_of_ble_eq_true rfl, Nat.le_of_ble_eq_true rfl⟩ ⟨Nat.le_of_ble_eq_true rfl, Nat.le_of_ble_eq_true rfl⟩ dX8_init_20 rfl ?_
  rintro _ My6 ⟨rfl, hS⟩
  have hN := hN.sub hS (by decide +kernel)
  have hN : NB tbPe q 3 [(0, 1, 1)] [2, 1] (gS G 0) zI zL M0 My6 := hN.v (fun o_ _ => congrFun (gl0I (fun o_ h_ => rfl)) o_) (fun o_ _ => congrFun (gl0L (fun _ _ => rfl)) o_)
  refine r_putRF C fl_X8_18 (hini rfl) (fun r h => by cases h; rfl) rfl rfl rfl (show mK My6 q = 11 from (hN.1 0 (by decide)).1) dX8_init_23 ?_
  have hN : NB tbPe q 3 [(0, 2, 2), (0, 1, 1)] [2, 1] (gS G 0) zI zL M0 (wR My6 q 2 (some (q + 2))) := hN.ref 0 2 2 rfl
  generalize (wR My6 q 2 (some (q + 2))) = Mc8 at hN ⊢
  refine r_aload_n C 0 dX8_init_26 rfl rfl ?_
  refine r_new C (q := q + 3) nl_X8_9 ((by omega)) (hN.2.1 _ (Nat.le_refl _)) (hN.2.2.1) (Nat.le_of_ble_eq_true rfl) (Nat.le_of_ble_eq_true rfl) dX8_init_27 ?_
  have hC := NB.cell (T := tbA) (e0 := gS G 0) (q := q + 3) hN.2.1 (κ := 3) ⟨rfl, rfl⟩
  generalize (wMk Mc8 (q + 3) 3 0) = Mc9 at hC ⊢
  refine r_dup C dX8_init_30 rfl ?_
  refine r_callI C hgX ml_X8_11 im_Jx4a65c_init_da8c8 rfl (c_Jx4a65c_init_da8c8 l hfl G Mc9 Mc8 (q + 3) (by omega) hC) rfl (Nat.le_of_ble_eq_true rfl) ⟨Nat.le_of_ble_eq_true rfl, Nat.le_of_ble_eq_true rfl⟩ ⟨Nat.le_of_ble_eq_true rfl, Nat.le_of_ble_eq_true rfl⟩ dX8_init_31 rfl ?_
  rintro _ My10 ⟨rfl, hS⟩
  have hN := hN.sub hS (by decide +kernel)
  have hN : NB tbPe q 4 [(0, 2, 2), (0, 1, 1)] [3, 2, 1] (gS G 0) zI zL M0 My10 := hN.v (fun o_ _ => congrFun (gl0I (fun o_ h_ => rfl)) o_) (fun o_ _ => congrFun (gl0L (fun _ _ => rfl)) o_)
  refine r_putRF C fl_X8_21 (hini rfl) (fun r h => by cases h; rfl) rfl rfl rfl (show mK My10 q = 11 from (hN.1 0 (by decide)).1) dX8_init_34 ?_
  have hN : NB tbPe q 4 [(0, 3, 3), (0, 2, 2), (0, 1, 1)] [3, 2, 1] (gS G 0) zI zL M0 (wR My10 q 3 (some (q + 3))) := hN.ref 0 3 3 rfl
  generalize (wR My10 q 3 (some (q + 3))) = Mc12 at hN ⊢
  refine r_aload_n C 0 dX8_init_37 rfl rfl ?_
  refine r_new C (q := q + 4) nl_X8_24 ((by omega)) (hN.2.1 _ (Nat.le_refl _)) (hN.2.2.1) (Nat.le_of_ble_eq_true rfl) (Nat.le_of_ble_eq_true rfl) dX8_init_38 ?_
  have hC := NB.cell (T := (tbSt 24)) (e0 := gS G 0) (q := q + 4) hN.2.1 (κ := 13) ⟨rfl, rfl⟩
  generalize (wMk Mc12 (q + 4) 13 0) = Mc13 at hC ⊢
  refine r_dup C dX8_init_41 rfl ?_
  refine r_bipush C (v := nI 24) dX8_init_42 (by decide) ?_
  refine r_callI C hgX ml_X8_26 im_X10_init rfl (c_X10_init24 l hfl G Mc13 Mc12 (q + 4) (by omega) hC) rfl (Nat.le_of_ble_eq_true rfl) ⟨Nat.le_of_ble_eq_true rfl, Nat.le_of_ble_eq_true rfl⟩ ⟨Nat.le_of_ble_eq_true rfl, Nat.le_of_ble_eq_true rfl⟩ dX8_init_44 rfl ?_
  rintro _ My14 ⟨rfl, hS⟩
  have hN := hN.sub hS (by decide +kernel)
  have hN : NB tbPe q 7 [(4, 1, 6), (4, 0, 5), (0, 3, 3), (0, 2, 2), (0, 1, 1)] [3, 2, 1] (gS G 0) zI zL M0 My14 := hN.v (fun o_ _ => congrFun (gl0I (fun o_ h_ => rfl)) o_) (fun o_ _ => congrFun (gl0L (fun _ _ => rfl)) o_)
  refine r_putRF C fl_X8_29 (hini rfl) (fun r h => by cases h; rfl) rfl rfl rfl (show mK My14 q = 11 from (hN.1 0 (by decide)).1) dX8_init_47 ?_
  have hN : NB tbPe q 7 [(0, 4, 4), (4, 1, 6), (4, 0, 5), (0, 3, 3), (0, 2, 2), (0, 1, 1)] [3, 2, 1] (gS G 0) zI zL M0 (wR My14 q 4 (some (q + 4))) := hN.ref 0 4 4 rfl
  generalize (wR My14 q 4 (some (q + 4))) = Mc16 at hN ⊢
  refine r_aload_n C 0 dX8_init_50 rfl rfl ?_
  refine r_new C (q := q + 7) nl_X8_24 ((by omega)) (hN.2.1 _ (Nat.le_refl _)) (hN.2.2.1) (Nat.le_of_ble_eq_true rfl) (Nat.le_of_ble_eq_true rfl) dX8_init_51 ?_
  have hC := NB.cell (T := (tbSt 24)) (e0 := gS G 0) (q := q + 7) hN.2.1 (κ := 13) ⟨rfl, rfl⟩
  generalize (wMk Mc16 (q + 7) 13 0) = Mc17 at hC ⊢
  refine r_dup C dX8_init_54 rfl ?_
  refine r_bipush C (v := nI 24) dX8_init_55 (by decide) ?_
  refine r_callI C hgX ml_X8_26 im_X10_init rfl (c_X10_init24 l hfl G Mc17 Mc16 (q + 7) (by omega) hC) rfl (Nat.le_of_ble_eq_true rfl) ⟨Nat.le_of_ble_eq_true rfl, Nat.le_of_ble_eq_true rfl⟩ ⟨Nat.le_of_ble_eq_true rfl, Nat.le_of_ble_eq_true rfl⟩ dX8_init_57 rfl ?_
  rintro _ My18 ⟨rfl, hS⟩
  have hN := hN.sub hS (by decide +kernel)
  have hN : NB tbPe q 10 [(7, 1, 9), (7, 0, 8), (0, 4, 4), (4, 1, 6), (4, 0, 5), (0, 3, 3), (0, 2, 2), (0, 1, 1)] [3, 2, 1] (gS G 0) zI zL M0 My18 := hN.v (fun o_ _ => congrFun (gl0I (fun o_ h_ => rfl)) o_) (fun o_ _ => congrFun (gl0L (fun _ _ => rfl)) o_)
  refine r_putRF C fl_X8_33 (hini rfl) (fun r h => by cases h; rfl) rfl rfl rfl (show mK My18 q = 11 from (hN.1 0 (by decide)).1) dX8_init_60 ?_
  have hN : NB tbPe q 10 [(0, 5, 7), (7, 1, 9), (7, 0, 8), (0, 4, 4), (4, 1, 6), (4, 0, 5), (0, 3, 3), (0, 2, 2), (0, 1, 1)] [3, 2, 1] (gS G 0) zI zL M0 (wR My18 q 5 (some (q + 7))) := hN.ref 0 5 7 rfl
  generalize (wR My18 q 5 (some (q + 7))) = Mc20 at hN ⊢
  refine r_aload_n C 0 dX8_init_63 rfl rfl ?_
  refine r_iconst C (v := nI 3) dX8_init_64 (by decide) ?_
  refine r_bipush C (v := nI 24) dX8_init_65 (by decide) ?_
  refine r_multi C hgX (q := q + 10) (n := 3) (k := 24) (j := 0) (by decide) cl_X8_36 (by decide) ac_int (by decide) (by decide) ((by omega)) (hN.2.1 _ (Nat.le_refl _)) (hN.2.2.1) (Nat.le_of_ble_eq_true rfl) (Nat.le_of_ble_eq_true rfl) dX8_init_67 ?_
  have hN : NB tbPe q 14 [(10, 0, 11), (10, 1, 12), (10, 2, 13), (0, 5, 7), (7, 1, 9), (7, 0, 8), (0, 4, 4), (4, 1, 6), (4, 0, 5), (0, 3, 3), (0, 2, 2), (0, 1, 1)] [3, 2, 1] (gS G 0) zI zL M0 (wMul Mc20 (q + 10) 27 20 3 24) := hN.multi 27 20 3 24 rfl (fun o_ h_ => ⟨rfl, rfl⟩)
  generalize (wMul Mc20 (q + 10) 27 20 3 24) = Mc21 at hN ⊢
  refine r_putRF C fl_X8_38 (hini rfl) (fun r h => by cases h; rfl) rfl rfl rfl (show mK Mc21 q = 11 from (hN.1 0 (by decide)).1) dX8_init_71 ?_
  have hN : NB tbPe q 14 [(0, 6, 10), (10, 0, 11), (10, 1, 12), (10, 2, 13), (0, 5, 7), (7, 1, 9), (7, 0, 8), (0, 4, 4), (4, 1, 6), (4, 0, 5), (0, 3, 3), (0, 2, 2), (0, 1, 1)] [3, 2, 1] (gS G 0) zI zL M0 (wR Mc21 q 6 (some (q + 10))) := hN.ref 0 6 10 rfl
  generalize (wR Mc21 q 6 (some (q + 10))) = Mc23 at hN ⊢
  refine r_aload_n C 0 dX8_init_74 rfl rfl ?_
  refine r_bipush C (v := nI 24) dX8_init_75 (by decide) ?_
  refine r_newarr C (q := q + 14) 1 (by decide) rfl ac_long (by decide) ((by omega)) (hN.2.1 _ (Nat.le_refl _)) (hN.2.2.1) (Nat.le_of_ble_eq_true rfl) (Nat.le_of_ble_eq_true rfl) dX8_init_77 ?_
  have hN : NB tbPe q 15 [(0, 6, 10), (10, 0, 11), (10, 1, 12), (10, 2, 13), (0, 5, 7), (7, 1, 9), (7, 0, 8), (0, 4, 4), (4, 1, 6), (4, 0, 5), (0, 3, 3), (0, 2, 2), (0, 1, 1)] [3, 2, 1] (gS G 0) zI zL M0 (wMk Mc23 (q + 14) 21 24) := hN.new 21 24 rfl ⟨by first | rfl | exact up2_row _ _ (by decide), rfl⟩
  generalize (wMk Mc23 (q + 14) 21 24) = Mc24 at hN ⊢
  refine r_putRF C fl_X8_41 (hini rfl) (fun r h => by cases h; rfl) rfl rfl rfl (show mK Mc24 q = 11 from (hN.1 0 (by decide)).1) dX8_init_79 ?_
  have hN : NB tbPe q 15 [(0, 7, 14), (0, 6, 10), (10, 0, 11), (10, 1, 12), (10, 2, 13), (0, 5, 7), (7, 1, 9), (7, 0, 8), (0, 4, 4), (4, 1, 6), (4, 0, 5), (0, 3, 3), (0, 2, 2), (0, 1, 1)] [3, 2, 1] (gS G 0) zI zL M0 (wR Mc24 q 7 (some (q + 14))) := hN.ref 0 7 14 rfl
  generalize (wR Mc24 q 7 (some (q + 14))) = Mc26 at hN ⊢
  refine r_aload_n C 0 dX8_init_82 rfl rfl ?_
  refine r_new C (q := q + 15) nl_X8_45 ((by omega)) (hN.2.1 _ (Nat.le_refl _)) (hN.2.2.1) (Nat.le_of_ble_eq_true rfl) (Nat.le_of_ble_eq_true rfl) dX8_init_83 ?_
  have hC := NB.cell (T := tbBk) (e0 := gS G 0) (q := q + 15) hN.2.1 (κ := 4) ⟨rfl, rfl⟩
  generalize (wMk Mc26 (q + 15) 4 0) = Mc27 at hC ⊢
  refine r_dup C dX8_init_86 rfl ?_
  refine r_callI C hgX ml_X8_47 im_X0_init rfl (c_X0_init l hfl G Mc27 Mc26 (q + 15) (by omega) hC) rfl (Nat.le_of_ble_eq_true rfl) ⟨Nat.le_of_ble_eq_true rfl, Nat.le_of_ble_eq_true rfl⟩ ⟨Nat.le_of_ble_eq_true rfl, Nat.le_of_ble_eq_true rfl⟩ dX8_init_87 rfl ?_
  rintro _ My28 ⟨rfl, hS⟩
  have hN := hN.sub hS (by decide +kernel)
  have hN : NB tbPe q 57 [(15, 14, 56), (15, 13, 55), (15, 12, 54), (15, 11, 53), (15, 10, 52), (15, 9, 51), (15, 8, 44), (44, 0, 45), (44, 1, 46), (44, 2, 47), (44, 3, 48), (44, 4, 49), (44, 5, 50), (15, 7, 40), (40, 0, 41), (40, 1, 42), (40, 2, 43), (15, 6, 36), (36, 0, 37), (36, 1, 38), (36, 2, 39), (15, 5, 32), (32, 0, 33), (32, 1, 34), (32, 2, 35), (15, 4, 28), (28, 0, 29), (28, 1, 30), (28, 2, 31), (15, 3, 24), (24, 0, 25), (24, 1, 26), (24, 2, 27), (15, 2, 20), (20, 0, 21), (20, 1, 22), (20, 2, 23), (15, 1, 16), (16, 0, 17), (16, 1, 18), (16, 2, 19), (0, 7, 14), (0, 6, 10), (10, 0, 11), (10, 1, 12), (10, 2, 13), (0, 5, 7), (7, 1, 9), (7, 0, 8), (0, 4, 4), (4, 1, 6), (4, 0, 5), (0, 3, 3), (0, 2, 2), (0, 1, 1)] [3, 2, 1] (gS G 0) (up2 zI 15 0 (nI 1)) zL M0 My28 := hN.v (fun o_ _ => congrFun (glU (gl0I (fun o_ h_ => rfl))) o_) (fun o_ _ => congrFun (gl0L (fun _ _ => rfl)) o_)
  refine r_putRF C fl_X8_48 (hini rfl) (fun r h => by cases h; rfl) rfl rfl rfl (show mK My28 q = 11 from (hN.1 0 (by decide)).1) dX8_init_90 ?_
  have hN : NB tbPe q 57 [(0, 10, 15), (15, 14, 56), (15, 13, 55), (15, 12, 54), (15, 11, 53), (15, 10, 52), (15, 9, 51), (15, 8, 44), (44, 0, 45), (44, 1, 46), (44, 2, 47), (44, 3, 48), (44, 4, 49), (44, 5, 50), (15, 7, 40), (40, 0, 41), (40, 1, 42), (40, 2, 43), (15, 6, 36), (36, 0, 37), (36, 1, 38), (36, 2, 39), (15, 5, 32), (32, 0, 33), (32, 1, 34), (32, 2, 35), (15, 4, 28), (28, 0, 29), (28, 1, 30), (28, 2, 31), (15, 3, 24), (24, 0, 25), (24, 1, 26), (24, 2, 27), (15, 2, 20), (20, 0, 21), (20, 1, 22), (20, 2, 23), (15, 1, 16), (16, 0, 17), (16, 1, 18), (16, 2, 19), (0, 7, 14), (0, 6, 10), (10, 0, 11), (10, 1, 12), (10, 2, 13), (0, 5, 7), (7, 1, 9), (7, 0, 8), (0, 4, 4), (4, 1, 6), (4, 0, 5), (0, 3, 3), (0, 2, 2), (0, 1, 1)] [3, 2, 1] (gS G 0) (up2 zI 15 0 (nI 1)) zL M0 (wR My28 q 10 (some (q + 15))) := hN.ref 0 10 15 rfl
  generalize (wR My28 q 10 (some (q + 15))) = Mc30 at hN ⊢
  refine r_aload_n C 0 dX8_init_93 rfl rfl ?_
  refine r_iload_n C 1 dX8_init_94 rfl rfl ?_
  refine r_putIF C fl_X8_52 (hini rfl) (fun r h => by cases h; rfl) (show mK Mc30 q = 11 from (hN.1 0 (by decide)).1) dX8_init_95 ?_
  have hN : NB tbPe q 57 [(0, 10, 15), (15, 14, 56), (15, 13, 55), (15, 12, 54), (15, 11, 53), (15, 10, 52), (15, 9, 51), (15, 8, 44), (44, 0, 45), (44, 1, 46), (44, 2, 47), (44, 3, 48), (44, 4, 49), (44, 5, 50), (15, 7, 40), (40, 0, 41), (40, 1, 42), (40, 2, 43), (15, 6, 36), (36, 0, 37), (36, 1, 38), (36, 2, 39), (15, 5, 32), (32, 0, 33), (32, 1, 34), (32, 2, 35), (15, 4, 28), (28, 0, 29), (28, 1, 30), (28, 2, 31), (15, 3, 24), (24, 0, 25), (24, 1, 26), (24, 2, 27), (15, 2, 20), (20, 0, 21), (20, 1, 22), (20, 2, 23), (15, 1, 16), (16, 0, 17), (16, 1, 18), (16, 2, 19), (0, 7, 14), (0, 6, 10), (10, 0, 11), (10, 1, 12), (10, 2, 13), (0, 5, 7), (7, 1, 9), (7, 0, 8), (0, 4, 4), (4, 1, 6), (4, 0, 5), (0, 3, 3), (0, 2, 2), (0, 1, 1)] [3, 2, 1] (gS G 0) (up2 (up2 zI 15 0 (nI 1)) 0 0 a1) zL M0 (wI Mc30 q 0 a1) := hN.wi 0 0 a1 (by decide)
  generalize (wI Mc30 q 0 a1) = Mc31 at hN ⊢
  exact r_vret C hr (⟨rfl, hN⟩) (by first | exact Nat.zero_le _ | decide) (by first | exact Nat.zero_le _ | decide) dX8_init_98
set_option maxHeartbeats 1000000 in
set_option maxRecDepth 100000 in
theorem c_X9_init (l : Launch) (hfl : l.flags = flags0) (G : gW) (M : Mem) (M0 : Mem) (q : Nat) (hgq : gB G ≤ q) (h : NB tbPl q 1 [] [] (gS G 0) zI zL M0 M) : CT l yX9_init cX9_init 2 none 2 34 628 51 G M [.ref q] (fun v M' => v = none ∧ NB tbPl q 35 [(7, 1, 23), (23, 2, 30), (30, 0, 31), (30, 1, 32), (30, 2, 33), (30, 3, 34), (23, 1, 25), (25, 0, 26), (25, 1, 27), (25, 2, 28), (25, 3, 29), (23, 0, 24), (7, 0, 11), (11, 2, 18), (18, 0, 19), (18, 1, 20), (18, 2, 21), (18, 3, 22), (11, 1, 13), (13, 0, 14), (13, 1, 15), (13, 2, 16), (13, 3, 17), (11, 0, 12), (0, 5, 10), (0, 4, 9), (0, 3, 8), (0, 2, 7), (0, 1, 4), (4, 1, 6), (4, 0, 5), (0, 0, 1), (1, 1, 3), (1, 0, 2)] [] (gS G 0) zI zL M0 M') := by
  refine CT.of hfl rfl (Nat.le_of_ble_eq_true rfl) ?_
  intro pp ee ss mm ar bw mt cd C hgX hr hini
  have hN := h
  refine V.eLo (lo' := [(0, .ref q)]) rfl ?_
  refine r_aload_n C 0 dX9_init_0 rfl rfl ?_
  refine r_objInit C oi_X9 oi_im oi_cd dX9_init_1 (Nat.le_of_ble_eq_true rfl) (Nat.le_of_ble_eq_true rfl) ?_
  refine r_aload_n C 0 dX9_init_4 rfl rfl ?_
  refine r_new C (q := q + 1) nl_X9_9 ((by omega)) (hN.2.1 _ (Nat.le_refl _)) (hN.2.2.1) (Nat.le_of_ble_eq_true rfl) (Nat.le_of_ble_eq_true rfl) dX9_init_5 ?_
  have hC := NB.cell (T := (tbSt 24)) (e0 := gS G 0) (q := q + 1) hN.2.1 (κ := 13) ⟨rfl, rfl⟩
  generalize (wMk M (q + 1) 13 0) = Mc1 at hC ⊢
  refine r_dup C dX9_init_8 rfl ?_
  refine r_bipush C (v := nI 24) dX9_init_9 (by decide) ?_
  refine r_callI C hgX ml_X9_11 im_X10_init rfl (c_X10_init24 l hfl G Mc1 M (q + 1) (by omega) hC) rfl (Nat.le_of_ble_eq_true rfl) ⟨Nat.le_of_ble_eq_true rfl, Nat.le_of_ble_eq_true rfl⟩ ⟨Nat.le_of_ble_eq_true rfl, Nat.le_of_ble_eq_true rfl⟩ dX9_init_11 rfl ?_
  rintro _ My2 ⟨rfl, hS⟩
  have hN := hN.sub hS (by decide +kernel)
  have hN : NB tbPl q 4 [(1, 1, 3), (1, 0, 2)] [] (gS G 0) zI zL M0 My2 := hN.v (fun o_ _ => congrFun (gl0I (fun o_ h_ => rfl)) o_) (fun o_ _ => congrFun (gl0L (fun _ _ => rfl)) o_)
  refine r_putRF C fl_X9_14 (hini rfl) (fun r h => by cases h; rfl) rfl rfl rfl (show mK My2 q = 12 from (hN.1 0 (by decide)).1) dX9_init_14 ?_
  have hN : NB tbPl q 4 [(0, 0, 1), (1, 1, 3), (1, 0, 2)] [] (gS G 0) zI zL M0 (wR My2 q 0 (some (q + 1))) := hN.ref 0 0 1 rfl
  generalize (wR My2 q 0 (some (q + 1))) = Mc4 at hN ⊢
  refine r_aload_n C 0 dX9_init_17 rfl rfl ?_
  refine r_new C (q := q + 4) nl_X9_9 ((by omega)) (hN.2.1 _ (Nat.le_refl _)) (hN.2.2.1) (Nat.le_of_ble_eq_true rfl) (Nat.le_of_ble_eq_true rfl) dX9_init_18 ?_
  have hC := NB.cell (T := (tbSt 24)) (e0 := gS G 0) (q := q + 4) hN.2.1 (κ := 13) ⟨rfl, rfl⟩
  generalize (wMk Mc4 (q + 4) 13 0) = Mc5 at hC ⊢
  refine r_dup C dX9_init_21 rfl ?_
  refine r_bipush C (v := nI 24) dX9_init_22 (by decide) ?_
  refine r_callI C hgX ml_X9_11 im_X10_init rfl (c_X10_init24 l hfl G Mc5 Mc4 (q + 4) (by omega) hC) rfl (Nat.le_of_ble_eq_true rfl) ⟨Nat.le_of_ble_eq_true rfl, Nat.le_of_ble_eq_true rfl⟩ ⟨Nat.le_of_ble_eq_true rfl, Nat.le_of_ble_eq_true rfl⟩ dX9_init_24 rfl ?_
  rintro _ My6 ⟨rfl, hS⟩
  have hN := hN.sub hS (by decide +kernel)
  have hN : NB tbPl q 7 [(4, 1, 6), (4, 0, 5), (0, 0, 1), (1, 1, 3), (1, 0, 2)] [] (gS G 0) zI zL M0 My6 := hN.v (fun o_ _ => congrFun (gl0I (fun o_ h_ => rfl)) o_) (fun o_ _ => congrFun (gl0L (fun _ _ => rfl)) o_)
  refine r_putRF C fl_X9_20 (hini rfl) (fun r h => by cases h; rfl) rfl rfl rfl (show mK My6 q = 12 from (hN.1 0 (by decide)).1) dX9_init_27 ?_
  have hN : NB tbPl q 7 [(0, 1, 4), (4, 1, 6), (4, 0, 5), (0, 0, 1), (1, 1, 3), (1, 0, 2)] [] (gS G 0) zI zL M0 (wR My6 q 1 (some (q + 4))) := hN.ref 0 1 4 rfl
  generalize (wR My6 q 1 (some (q + 4))) = Mc8 at hN ⊢
  refine r_aload_n C 0 dX9_init_30 rfl rfl ?_
  refine r_iconst C (v := nI 2) dX9_init_31 (by decide) ?_
  refine r_anew C hgX (q := q + 7) (n := 2) (j := 0) (by decide) rfl cl_X9_23 (by decide) (by decide) ((by omega)) (hN.2.1 _ (Nat.le_refl _)) (hN.2.2.1) (Nat.le_of_ble_eq_true rfl) (Nat.le_of_ble_eq_true rfl) dX9_init_32 ?_
  have hN : NB tbPl q 8 [(0, 1, 4), (4, 1, 6), (4, 0, 5), (0, 0, 1), (1, 1, 3), (1, 0, 2)] [] (gS G 0) zI zL M0 (wMk Mc8 (q + 7) 23 2) := hN.new 23 2 rfl ⟨by first | rfl | exact up2_row _ _ (by decide), rfl⟩
  generalize (wMk Mc8 (q + 7) 23 2) = Mc9 at hN ⊢
  refine r_putRF C fl_X9_25 (hini rfl) (fun r h => by cases h; rfl) rfl rfl rfl (show mK Mc9 q = 12 from (hN.1 0 (by decide)).1) dX9_init_35 ?_
  have hN : NB tbPl q 8 [(0, 2, 7), (0, 1, 4), (4, 1, 6), (4, 0, 5), (0, 0, 1), (1, 1, 3), (1, 0, 2)] [] (gS G 0) zI zL M0 (wR Mc9 q 2 (some (q + 7))) := hN.ref 0 2 7 rfl
  generalize (wR Mc9 q 2 (some (q + 7))) = Mc11 at hN ⊢
  refine r_aload_n C 0 dX9_init_38 rfl rfl ?_
  refine r_bipush C (v := nI 24) dX9_init_39 (by decide) ?_
  refine r_newarr C (q := q + 8) 1 (by decide) rfl ac_long (by decide) ((by omega)) (hN.2.1 _ (Nat.le_refl _)) (hN.2.2.1) (Nat.le_of_ble_eq_true rfl) (Nat.le_of_ble_eq_true rfl) dX9_init_41 ?_
  have hN : NB tbPl q 9 [(0, 2, 7), (0, 1, 4), (4, 1, 6), (4, 0, 5), (0, 0, 1), (1, 1, 3), (1, 0, 2)] [] (gS G 0) zI zL M0 (wMk Mc11 (q + 8) 21 24) := hN.new 21 24 rfl ⟨by first | rfl | exact up2_row _ _ (by decide), rfl⟩
  generalize (wMk Mc11 (q + 8) 21 24) = Mc12 at hN ⊢
  refine r_putRF C fl_X9_29 (hini rfl) (fun r h => by cases h; rfl) rfl rfl rfl (show mK Mc12 q = 12 from (hN.1 0 (by decide)).1) dX9_init_43 ?_
  have hN : NB tbPl q 9 [(0, 3, 8), (0, 2, 7), (0, 1, 4), (4, 1, 6), (4, 0, 5), (0, 0, 1), (1, 1, 3), (1, 0, 2)] [] (gS G 0) zI zL M0 (wR Mc12 q 3 (some (q + 8))) := hN.ref 0 3 8 rfl
  generalize (wR Mc12 q 3 (some (q + 8))) = Mc14 at hN ⊢
  refine r_aload_n C 0 dX9_init_46 rfl rfl ?_
  refine r_bipush C (v := nI 24) dX9_init_47 (by decide) ?_
  refine r_newarr C (q := q + 9) 1 (by decide) rfl ac_long (by decide) ((by omega)) (hN.2.1 _ (Nat.le_refl _)) (hN.2.2.1) (Nat.le_of_ble_eq_true rfl) (Nat.le_of_ble_eq_true rfl) dX9_init_49 ?_
  have hN : NB tbPl q 10 [(0, 3, 8), (0, 2, 7), (0, 1, 4), (4, 1, 6), (4, 0, 5), (0, 0, 1), (1, 1, 3), (1, 0, 2)] [] (gS G 0) zI zL M0 (wMk Mc14 (q + 9) 21 24) := hN.new 21 24 rfl ⟨by first | rfl | exact up2_row _ _ (by decide), rfl⟩
  generalize (wMk Mc14 (q + 9) 21 24) = Mc15 at hN ⊢
  refine r_putRF C fl_X9_33 (hini rfl) (fun r h => by cases h; rfl) rfl rfl rfl (show mK Mc15 q = 12 from (hN.1 0 (by decide)).1) dX9_init_51 ?_
  have hN : NB tbPl q 10 [(0, 4, 9), (0, 3, 8), (0, 2, 7), (0, 1, 4), (4, 1, 6), (4, 0, 5), (0, 0, 1), (1, 1, 3), (1, 0, 2)] [] (gS G 0) zI zL M0 (wR Mc15 q 4 (some (q + 9))) := hN.ref 0 4 9 rfl
  generalize (wR Mc15 q 4 (some (q + 9))) = Mc17 at hN ⊢
  refine r_aload_n C 0 dX9_init_54 rfl rfl ?_
  refine r_bipush C (v := nI 24) dX9_init_55 (by decide) ?_
  refine r_newarr C (q := q + 10) 0 (by decide) rfl ac_int (by decide) ((by omega)) (hN.2.1 _ (Nat.le_refl _)) (hN.2.2.1) (Nat.le_of_ble_eq_true rfl) (Nat.le_of_ble_eq_true rfl) dX9_init_57 ?_
  have hN : NB tbPl q 11 [(0, 4, 9), (0, 3, 8), (0, 2, 7), (0, 1, 4), (4, 1, 6), (4, 0, 5), (0, 0, 1), (1, 1, 3), (1, 0, 2)] [] (gS G 0) zI zL M0 (wMk Mc17 (q + 10) 20 24) := hN.new 20 24 rfl ⟨by first | rfl | exact up2_row _ _ (by decide), rfl⟩
  generalize (wMk Mc17 (q + 10) 20 24) = Mc18 at hN ⊢
  refine r_putRF C fl_X9_36 (hini rfl) (fun r h => by cases h; rfl) rfl rfl rfl (show mK Mc18 q = 12 from (hN.1 0 (by decide)).1) dX9_init_59 ?_
  have hN : NB tbPl q 11 [(0, 5, 10), (0, 4, 9), (0, 3, 8), (0, 2, 7), (0, 1, 4), (4, 1, 6), (4, 0, 5), (0, 0, 1), (1, 1, 3), (1, 0, 2)] [] (gS G 0) zI zL M0 (wR Mc18 q 5 (some (q + 10))) := hN.ref 0 5 10 rfl
  generalize (wR Mc18 q 5 (some (q + 10))) = Mc20 at hN ⊢
  refine r_iconst C (v := nI 0) dX9_init_62 (by decide) ?_
  refine r_istore_n C (lo' := [(1, .int (nI 0)), (0, .ref q)]) dX9_init_63 rfl (by decide) rfl ?_
  refine r_iload_n C 0 dX9_init_64 rfl rfl ?_
  refine r_iconst C (v := nI 2) dX9_init_65 (by decide) ?_
  refine r_icmp_geN C (t := 88) (by omega) (by omega) dX9_init_66 (by decide) (fun c_ => absurd c_ (by decide)) (fun _ => ?_)
  refine r_aload_n C 1 dX9_init_69 rfl rfl ?_
  refine r_getR C (b := (q + 7)) fl_X9_25 rfl (show mK Mc20 q = 12 from (hN.1 0 (by decide)).1) (hN.2.2.2.1 (0, 2, 7) (by decide)).2 dX9_init_70 ?_
  refine r_iload_n C 0 dX9_init_73 rfl rfl ?_
  refine r_new C (q := q + 11) nl_X9_23 ((by omega)) (hN.2.1 _ (Nat.le_refl _)) (hN.2.2.1) (Nat.le_of_ble_eq_true rfl) (Nat.le_of_ble_eq_true rfl) dX9_init_74 ?_
  have hC := NB.cell (T := tbBr) (e0 := gS G 0) (q := q + 11) hN.2.1 (κ := 5) ⟨rfl, rfl⟩
  generalize (wMk Mc20 (q + 11) 5 0) = Mc21 at hC ⊢
  refine r_dup C dX9_init_77 rfl ?_
  refine r_callI C hgX ml_X9_40 im_X1_init rfl (c_X1_init l hfl G Mc21 Mc20 (q + 11) (by omega) hC) rfl (Nat.le_of_ble_eq_true rfl) ⟨Nat.le_of_ble_eq_true rfl, Nat.le_of_ble_eq_true rfl⟩ ⟨Nat.le_of_ble_eq_true rfl, Nat.le_of_ble_eq_true rfl⟩ dX9_init_78 rfl ?_
  rintro _ My22 ⟨rfl, hS⟩
  have hN := hN.sub hS (by decide +kernel)
  have hN : NB tbPl q 23 [(11, 2, 18), (18, 0, 19), (18, 1, 20), (18, 2, 21), (18, 3, 22), (11, 1, 13), (13, 0, 14), (13, 1, 15), (13, 2, 16), (13, 3, 17), (11, 0, 12), (0, 5, 10), (0, 4, 9), (0, 3, 8), (0, 2, 7), (0, 1, 4), (4, 1, 6), (4, 0, 5), (0, 0, 1), (1, 1, 3), (1, 0, 2)] [] (gS G 0) zI zL M0 My22 := hN.v (fun o_ _ => congrFun (gl0I (fun o_ h_ => rfl)) o_) (fun o_ _ => congrFun (gl0L (fun _ _ => rfl)) o_)
  refine r_aast C hgX (j := 0) (by decide) (show mK My22 (q + 7) = 23 from (hN.1 7 (by decide)).1) (show mN My22 (q + 7) = 2 from (hN.1 7 (by decide)).2) (by decide) (by decide) (show mK My22 (q + 11) = 5 from (hN.1 11 (by decide)).1) (ci := 4) rfl rfl (.inl rfl) dX9_init_81 ?_
  have hN : NB tbPl q 23 [(7, 0, 11), (11, 2, 18), (18, 0, 19), (18, 1, 20), (18, 2, 21), (18, 3, 22), (11, 1, 13), (13, 0, 14), (13, 1, 15), (13, 2, 16), (13, 3, 17), (11, 0, 12), (0, 5, 10), (0, 4, 9), (0, 3, 8), (0, 2, 7), (0, 1, 4), (4, 1, 6), (4, 0, 5), (0, 0, 1), (1, 1, 3), (1, 0, 2)] [] (gS G 0) zI zL M0 (wR My22 (q + 7) 0 (some (q + 11))) := hN.ref 7 0 11 rfl
  generalize (wR My22 (q + 7) 0 (some (q + 11))) = Mc23 at hN ⊢
  refine r_iinc C (v := nI 1) (lo' := [(1, .int (nI 1)), (0, .ref q)]) 0 dX9_init_82 rfl (nI_addI 0 1) (by decide) rfl ?_
  refine r_goto C (t := 64) dX9_init_85 (by decide) ?_
  refine r_iload_n C 0 dX9_init_64 rfl rfl ?_
  refine r_iconst C (v := nI 2) dX9_init_65 (by decide) ?_
  refine r_icmp_geN C (t := 88) (by omega) (by omega) dX9_init_66 (by decide) (fun c_ => absurd c_ (by decide)) (fun _ => ?_)
  refine r_aload_n C 1 dX9_init_69 rfl rfl ?_
  refine r_getR C (b := (q + 7)) fl_X9_25 rfl (show mK Mc23 q = 12 from (hN.1 0 (by decide)).1) (hN.2.2.2.1 (0, 2, 7) (by decide)).2 dX9_init_70 ?_
  refine r_iload_n C 0 dX9_init_73 rfl rfl ?_
  refine r_new C (q := q + 23) nl_X9_23 ((by omega)) (hN.2.1 _ (Nat.le_refl _)) (hN.2.2.1) (Nat.le_of_ble_eq_true rfl) (Nat.le_of_ble_eq_true rfl) dX9_init_74 ?_
  have hC := NB.cell (T := tbBr) (e0 := gS G 0) (q := q + 23) hN.2.1 (κ := 5) ⟨rfl, rfl⟩
  generalize (wMk Mc23 (q + 23) 5 0) = Mc24 at hC ⊢
  refine r_dup C dX9_init_77 rfl ?_
  refine r_callI C hgX ml_X9_40 im_X1_init rfl (c_X1_init l hfl G Mc24 Mc23 (q + 23) (by omega) hC) rfl (Nat.le_of_ble_eq_true rfl) ⟨Nat.le_of_ble_eq_true rfl, Nat.le_of_ble_eq_true rfl⟩ ⟨Nat.le_of_ble_eq_true rfl, Nat.le_of_ble_eq_true rfl⟩ dX9_init_78 rfl ?_
  rintro _ My25 ⟨rfl, hS⟩
  have hN := hN.sub hS (by decide +kernel)
  have hN : NB tbPl q 35 [(23, 2, 30), (30, 0, 31), (30, 1, 32), (30, 2, 33), (30, 3, 34), (23, 1, 25), (25, 0, 26), (25, 1, 27), (25, 2, 28), (25, 3, 29), (23, 0, 24), (7, 0, 11), (11, 2, 18), (18, 0, 19), (18, 1, 20), (18, 2, 21), (18, 3, 22), (11, 1, 13), (13, 0, 14), (13, 1, 15), (13, 2, 16), (13, 3, 17), (11, 0, 12), (0, 5, 10), (0, 4, 9), (0, 3, 8), (0, 2, 7), (0, 1, 4), (4, 1, 6), (4, 0, 5), (0, 0, 1), (1, 1, 3), (1, 0, 2)] [] (gS G 0) zI zL M0 My25 := hN.v (fun o_ _ => congrFun (gl0I (fun o_ h_ => rfl)) o_) (fun o_ _ => congrFun (gl0L (fun _ _ => rfl)) o_)
  refine r_aast C hgX (j := 0) (by decide) (show mK My25 (q + 7) = 23 from (hN.1 7 (by decide)).1) (show mN My25 (q + 7) = 2 from (hN.1 7 (by decide)).2) (by decide) (by decide) (show mK My25 (q + 23) = 5 from (hN.1 23 (by decide)).1) (ci := 4) rfl rfl (.inl rfl) dX9_init_81 ?_
  have hN : NB tbPl q 35 [(7, 1, 23), (23, 2, 30), (30, 0, 31), (30, 1, 32), (30, 2, 33), (30, 3, 34), (23, 1, 25), (25, 0, 26), (25, 1, 27), (25, 2, 28), (25, 3, 29), (23, 0, 24), (7, 0, 11), (11, 2, 18), (18, 0, 19), (18, 1, 20), (18, 2, 21), (18, 3, 22), (11, 1, 13), (13, 0, 14), (13, 1, 15), (13, 2, 16), (13, 3, 17), (11, 0, 12), (0, 5, 10), (0, 4, 9), (0, 3, 8), (0, 2, 7), (0, 1, 4), (4, 1, 6), (4, 0, 5), (0, 0, 1), (1, 1, 3), (1, 0, 2)] [] (gS G 0) zI zL M0 (wR My25 (q + 7) 1 (some (q + 23))) := hN.ref 7 1 23 rfl
  generalize (wR My25 (q + 7) 1 (some (q + 23))) = Mc26 at hN ⊢
  refine r_iinc C (v := nI 2) (lo' := [(1, .int (nI 2)), (0, .ref q)]) 0 dX9_init_82 rfl (nI_addI 1 1) (by decide) rfl ?_
  refine r_goto C (t := 64) dX9_init_85 (by decide) ?_
  refine r_iload_n C 0 dX9_init_64 rfl rfl ?_
  refine r_iconst C (v := nI 2) dX9_init_65 (by decide) ?_
  refine r_icmp_geN C (t := 88) (by omega) (by omega) dX9_init_66 (by decide) (fun _ => ?_) (fun c_ => absurd c_ (by decide))
  exact r_vret C hr (⟨rfl, hN⟩) (by first | exact Nat.zero_le _ | decide) (by first | exact Nat.zero_le _ | decide) dX9_init_88

