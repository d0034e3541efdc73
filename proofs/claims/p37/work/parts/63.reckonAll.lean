theorem cmK_n {τ : Mu} (hw : WF τ) {p m k : Nat} (hk : k < un τ 26 26) (h : (un τ 25 (un τ 27 k)).testBit p = false) {e : Nat} (he : e < 6) : cmL τ p m (k + 1) e = cmL τ p m k e := by
  show vp_updL (cmL τ p m k) (un τ 27 k) _ e = _
  by_cases z : e = un τ 27 k
  · subst z
    rw [pk_uLs, if_neg (by rw [h]; decide), cmL_z (fun j hj => ord_ne hw hk j hj)]
  · rw [pk_uLn z]
theorem cmK_s {τ : Mu} {p m k : Nat} {M2 M3 : Mem} {f : Nat → Nat} (hne : un τ 26 26 ≤ 6) (hb : Blk tbEl (mK M2) (mN M2) (mR M2) f) (hcm : ∀ e, e < 6 → mL M2 (f 21) e = cmL τ p m k e) (hfm : frm (fun a => a = f 22) M2 M3) (h : (un τ 25 (un τ 27 k)).testBit p = true) :
    ∀ e, e < 6 → mL (wL M3 (f 21) (un τ 27 k) (formL τ (mL M2 (f 21)) (lN (bsN τ p m (un τ 9 9))) (lN (hrN τ p m (un τ 9 9) / 60)) (un τ 27 k))) (f 21) e = cmL τ p m (k + 1) e := by
  intro e he
  show _ = vp_updL (cmL τ p m k) (un τ 27 k) _ e
  by_cases z : e = un τ 27 k
  · subst z
    rw [wL_i, pk_uLs, if_pos h, formL_cg hne hcm]
  · rw [wL_k z, pk_uLn z, hfm.l (hb.ne 21 22 rfl)]
    exact hcm e he
set_option maxHeartbeats 4000000 in
set_option maxRecDepth 100000 in
theorem c_X4_reckonAll (l : Launch) (hfl : l.flags = flags0) (G : gW) (M : Mem) (f : Nat → Nat) (hb : Blk tbEl (mK M) (mN M) (mR M) f) (τ : Mu) (hw : WF τ) (hf : ElF τ (mI M) f) (p m : Nat) (hp : p < 6) : CT l yX4_reckonAll cX4_reckonAll 8 none 4 0 0 105 G M [.ref (f 0), .int (nI p), .long (lN (bsN τ p m (un τ 9 9))), .long (lN (hrN τ p m (un τ 9 9) / 60))] (fun v M' => v = none ∧ frm (fun a => a = f 21 ∨ a = f 22) M M' ∧ ∀ e, e < 6 → mL M' (f 21) e = elL τ p m e) := by
  refine CT.of hfl rfl (Nat.le_of_ble_eq_true rfl) ?_
  intro pp ee ss mm ar bw mt cd C hgX hr hini
  have hne := hw.ne.2
  obtain ⟨he0, he1, hwd, hnm, hle, hnd, hse, hod⟩ := id hf
  have hb0 := hb
  have hfO := hf
  refine V.eLo (lo' := [(0, .ref (f 0)), (1, .int (nI p)), (2, .long (lN (bsN τ p m (un τ 9 9)))), (4, .long (lN (hrN τ p m (un τ 9 9) / 60)))]) rfl ?_
  refine r_iconst C (v := nI 0) dX4_reckonAll_0 (by decide) ?_
  refine r_istore C (lo' := [(6, .int (nI 0)), (0, .ref (f 0)), (1, .int (nI p)), (2, .long (lN (bsN τ p m (un τ 9 9)))), (4, .long (lN (hrN τ p m (un τ 9 9) / 60)))]) dX4_reckonAll_1 (by decide) rfl ?_
  have lp3 : ∀ (k3 : Nat) (M1 : Mem) (k : Nat) (hk : k ≤ 6) (hfm : frm (fun a => a = f 21) M M1) (hz : ∀ e, e < k → mL M1 (f 21) e = lN 0), 7 - k < k3 → V pp l ee ({ frames := 4, cells := 0, slots := 0, locals := 105 } : Room) ss mm ar bw mt cd G (MQ bw (Ke G (fun v M' => v = none ∧ frm (fun a => a = f 21 ∨ a = f 22) M M' ∧ ∀ e, e < 6 → mL M' (f 21) e = elL τ p m e)) ar ss 0 0 (gA G)) 8 M1 0 0 3 [(0, .ref (f 0)), (1, .int (nI p)), (2, .long (lN (bsN τ p m (un τ 9 9)))), (4, .long (lN (hrN τ p m (un τ 9 9) / 60))), (6, .int (nI k))] [] := by
    intro k3
    induction k3 with
    | zero => intro M1 k hk hfm hz hz3; exact absurd hz3 (Nat.not_lt_zero _)
    | succ k3 ih3 =>
      intro M1 k hk hfm hz hz3
      have hb := hfm.blk hb
      refine r_iload C 4 dX4_reckonAll_3 rfl ?_
      refine r_bipush C (v := nI 6) dX4_reckonAll_5 (by decide) ?_
      refine r_icmp_geN C (t := 24) (by omega) (by omega) dX4_reckonAll_7 (by decide) (fun c7 => ?_) (fun c7 => ?_)
      · skip
        have ek : k = 6 := by omega
        subst ek
        refine r_iconst C (v := nI 0) dX4_reckonAll_24 (by decide) ?_
        refine r_istore C (lo' := [(6, .int (nI 0)), (0, .ref (f 0)), (1, .int (nI p)), (2, .long (lN (bsN τ p m (un τ 9 9)))), (4, .long (lN (hrN τ p m (un τ 9 9) / 60)))]) dX4_reckonAll_25 (by decide) rfl ?_
        have lp27 : ∀ (k27 : Nat) (M2 : Mem) (k : Nat) (hk : k ≤ un τ 26 26) (hfm : frm (fun a => a = f 21 ∨ a = f 22) M M2) (hcm : ∀ e, e < 6 → mL M2 (f 21) e = cmL τ p m k e), un τ 26 26 + 1 - k < k27 → V pp l ee ({ frames := 4, cells := 0, slots := 0, locals := 105 } : Room) ss mm ar bw mt cd G (MQ bw (Ke G (fun v M' => v = none ∧ frm (fun a => a = f 21 ∨ a = f 22) M M' ∧ ∀ e, e < 6 → mL M' (f 21) e = elL τ p m e)) ar ss 0 0 (gA G)) 8 M2 0 0 27 [(0, .ref (f 0)), (1, .int (nI p)), (2, .long (lN (bsN τ p m (un τ 9 9)))), (4, .long (lN (hrN τ p m (un τ 9 9) / 60))), (6, .int (nI k))] [] := by
          intro k27
          induction k27 with
          | zero => intro M2 k hk hfm hcm hz27; exact absurd hz27 (Nat.not_lt_zero _)
          | succ k27 ih27 =>
            intro M2 k hk hfm hcm hz27
            have hf := hfO.fr hfm (fun o ho q => q.elim (el_n hb0 (show o < 21 by omega) (by decide)) (el_n hb0 (show o < 22 by omega) (by decide)))
            have hb := hfm.blk hb0
            obtain ⟨he0, he1, hwd, hnm, hle, hnd, hse, hod⟩ := id hf
            refine r_iload C 4 dX4_reckonAll_27 rfl ?_
            refine r_aload_n C 0 dX4_reckonAll_29 rfl rfl ?_
            refine r_getI C fl_X4_43 rfl (hb.k 0 7 rfl) dX4_reckonAll_30 ?_
            refine V.ei (y := nI (un τ 26 26)) (he0) ?_
            refine r_icmp_geN C (t := 81) (by omega) (by omega) dX4_reckonAll_33 (by decide) (fun c33 => ?_) (fun c33 => ?_)
            · skip
              have ek : k = un τ 26 26 := by omega
              subst ek
              exact r_vret C hr (⟨rfl, hfm, hcm⟩) (by first | exact Nat.zero_le _ | decide) (by first | exact Nat.zero_le _ | decide) dX4_reckonAll_81
            · skip
              have hk1 : k < un τ 26 26 := by omega
              have hok := hw.od k hk1
              have hol := hok.2
              have hep := (hw.ep _ hol).2
              refine r_aload_n C 0 dX4_reckonAll_36 rfl rfl ?_
              refine r_getR C (b := (f 20)) fl_X4_29 rfl (hb.k 0 7 rfl) (hb.r 0 7 20 rfl) dX4_reckonAll_37 ?_
              refine r_iload C 4 dX4_reckonAll_40 rfl ?_
              refine r_ialoadN C (hb.k 20 20 rfl) (hb.n 20 6 rfl) (by omega) (by omega) dX4_reckonAll_42 ?_
              refine V.ei (y := nI (un τ 27 k)) (hod k hk1) ?_
              refine r_istore C (lo' := [(7, .int (nI (un τ 27 k))), (0, .ref (f 0)), (1, .int (nI p)), (2, .long (lN (bsN τ p m (un τ 9 9)))), (4, .long (lN (hrN τ p m (un τ 9 9) / 60))), (6, .int (nI k))]) dX4_reckonAll_43 (by decide) rfl ?_
              refine r_iload_n C 2 dX4_reckonAll_45 rfl rfl ?_
              refine r_aload_n C 1 dX4_reckonAll_46 rfl rfl ?_
              refine r_getR C (b := (f 19)) fl_X4_26 rfl (hb.k 0 7 rfl) (hb.r 0 6 19 rfl) dX4_reckonAll_47 ?_
              refine r_iload C 0 dX4_reckonAll_50 rfl ?_
              refine r_ialoadN C (hb.k 19 20 rfl) (hb.n 19 6 rfl) (by omega) (by omega) dX4_reckonAll_52 ?_
              refine V.ei (y := nI (un τ 25 (un τ 27 k))) (hse _ hol) ?_
              refine r_callS C hgX ml_X4_46 st_X4_isIn (c_X4_isIn l hfl G M2 p (un τ 25 (un τ 27 k)) (by omega) (by omega)) rfl (Nat.le_of_ble_eq_true rfl) ⟨Nat.le_of_ble_eq_true rfl, Nat.le_of_ble_eq_true rfl⟩ ⟨Nat.le_of_ble_eq_true rfl, Nat.le_of_ble_eq_true rfl⟩ dX4_reckonAll_53 rfl ?_
              rintro _ _ ⟨rfl, rfl⟩
              refine V.eSt (st' := [.int (bI (Nat.testBit (un τ 25 (un τ 27 k)) p))]) rfl ?_
              have hin : (un τ 25 (un τ 27 k)).testBit p = (un τ 25 (un τ 27 k)).testBit p := rfl
              refine r_if_eqB C (t := 75) dX4_reckonAll_56 (by decide) (fun c56 => ?_) (fun c56 => ?_)
              · skip
                refine r_iinc C (v := nI (k + 1)) (lo' := [(6, .int (nI (k + 1))), (7, .int (nI (un τ 27 k))), (0, .ref (f 0)), (1, .int (nI p)), (2, .long (lN (bsN τ p m (un τ 9 9)))), (4, .long (lN (hrN τ p m (un τ 9 9) / 60)))]) 5 dX4_reckonAll_75 rfl (nI_addI k 1) (by decide) rfl ?_
                refine r_goto C (t := 27) dX4_reckonAll_78 (by decide) ?_
                refine V.sub [2, 3, 4, 5, 0] (lo' := [(0, .ref (f 0)), (1, .int (nI p)), (2, .long (lN (bsN τ p m (un τ 9 9)))), (4, .long (lN (hrN τ p m (un τ 9 9) / 60))), (6, .int (nI (k + 1)))]) rfl ?_
                exact ih27 M2 (k + 1) (by omega) hfm (fun e he => by rw [hcm e he]; exact (cmK_n hw hk1 (by rw [← hin]; exact c56) he).symm) (by omega)
              · skip
                refine r_aload_n C 1 dX4_reckonAll_59 rfl rfl ?_
                refine r_getR C (b := (f 21)) fl_X4_32 rfl (hb.k 0 7 rfl) (hb.r 0 8 21 rfl) dX4_reckonAll_60 ?_
                refine r_iload C 0 dX4_reckonAll_63 rfl ?_
                refine r_aload_n C 1 dX4_reckonAll_65 rfl rfl ?_
                refine r_iload C 0 dX4_reckonAll_66 rfl ?_
                refine r_lload_n C 3 dX4_reckonAll_68 rfl rfl ?_
                refine r_lload C 4 dX4_reckonAll_69 rfl ?_
                refine r_callV C hgX (ci := 6) ml_X4_69 im_X4_comesTo se_X4_comesTo rfl rfl (hb.k 0 7 rfl) (c_X4_comesTo l hfl G M2 f hb τ hw hf (un τ 27 k) (by omega) (lN (bsN τ p m (un τ 9 9))) (lN (hrN τ p m (un τ 9 9) / 60)) (fun n h1 h2 => (hcm n h2).trans (cmL_z (fun j hj e => by have := (hw.od j (by omega)).2; omega)))) rfl (Nat.le_of_ble_eq_true rfl) ⟨Nat.le_of_ble_eq_true rfl, Nat.le_of_ble_eq_true rfl⟩ ⟨Nat.le_of_ble_eq_true rfl, Nat.le_of_ble_eq_true rfl⟩ dX4_reckonAll_71 rfl ?_
                rintro _ My1 ⟨rfl, hfm1⟩
                refine V.eSt (st' := [.long (formL τ (mL M2 (f 21)) (lN (bsN τ p m (un τ 9 9))) (lN (hrN τ p m (un τ 9 9) / 60)) (un τ 27 k)), .int (nI (un τ 27 k)), .ref (f 21)]) rfl ?_
                have hb2 := hb
                have hb := hfm1.blk hb
                refine r_lastoreN C (hb.k 21 21 rfl) (hb.n 21 6 rfl) (by omega) (by omega) dX4_reckonAll_74 ?_
                refine r_iinc C (v := nI (k + 1)) (lo' := [(6, .int (nI (k + 1))), (7, .int (nI (un τ 27 k))), (0, .ref (f 0)), (1, .int (nI p)), (2, .long (lN (bsN τ p m (un τ 9 9)))), (4, .long (lN (hrN τ p m (un τ 9 9) / 60)))]) 5 dX4_reckonAll_75 rfl (nI_addI k 1) (by decide) rfl ?_
                refine r_goto C (t := 27) dX4_reckonAll_78 (by decide) ?_
                refine V.sub [2, 3, 4, 5, 0] (lo' := [(0, .ref (f 0)), (1, .int (nI p)), (2, .long (lN (bsN τ p m (un τ 9 9)))), (4, .long (lN (hrN τ p m (un τ 9 9) / 60))), (6, .int (nI (k + 1)))]) rfl ?_
                exact ih27 (wL My1 (f 21) (un τ 27 k) (formL τ (mL M2 (f 21)) (lN (bsN τ p m (un τ 9 9))) (lN (hrN τ p m (un τ 9 9) / 60)) (un τ 27 k))) (k + 1) (by omega) ((hfm.tr (hfm1.mono (fun a h => .inr h))).wl _ _ (.inl rfl)) (cmK_s hne hb2 hcm hfm1 (by rw [← hin]; exact c56)) (by omega)
        refine V.sub [1, 2, 3, 4, 0] (lo' := [(0, .ref (f 0)), (1, .int (nI p)), (2, .long (lN (bsN τ p m (un τ 9 9)))), (4, .long (lN (hrN τ p m (un τ 9 9) / 60))), (6, .int (nI 0))]) rfl ?_
        exact lp27 _ M1 0 (Nat.zero_le _) (hfm.mono (fun a h => .inl h)) hz (Nat.lt_succ_self _)
      · skip
        refine r_aload_n C 0 dX4_reckonAll_10 rfl rfl ?_
        refine r_getR C (b := (f 21)) fl_X4_32 rfl (hb.k 0 7 rfl) (hb.r 0 8 21 rfl) dX4_reckonAll_11 ?_
        refine r_iload C 4 dX4_reckonAll_14 rfl ?_
        refine r_lconst C (v := lN 0) dX4_reckonAll_16 (by decide) ?_
        refine r_lastoreN C (hb.k 21 21 rfl) (hb.n 21 6 rfl) (by omega) (by omega) dX4_reckonAll_17 ?_
        refine r_iinc C (v := nI (k + 1)) (lo' := [(6, .int (nI (k + 1))), (0, .ref (f 0)), (1, .int (nI p)), (2, .long (lN (bsN τ p m (un τ 9 9)))), (4, .long (lN (hrN τ p m (un τ 9 9) / 60)))]) 4 dX4_reckonAll_18 rfl (nI_addI k 1) (by decide) rfl ?_
        refine r_goto C (t := 3) dX4_reckonAll_21 (by decide) ?_
        refine V.sub [1, 2, 3, 4, 0] (lo' := [(0, .ref (f 0)), (1, .int (nI p)), (2, .long (lN (bsN τ p m (un τ 9 9)))), (4, .long (lN (hrN τ p m (un τ 9 9) / 60))), (6, .int (nI (k + 1)))]) rfl ?_
        exact ih3 (wL M1 (f 21) k (lN 0)) (k + 1) (by omega) (hfm.wl _ _ rfl) (fun x hx => by by_cases e : x = k; (subst e; exact wL_i); exact (wL_k e).trans (hz x (by omega))) (by omega)
  refine V.sub [1, 2, 3, 4, 0] (lo' := [(0, .ref (f 0)), (1, .int (nI p)), (2, .long (lN (bsN τ p m (un τ 9 9)))), (4, .long (lN (hrN τ p m (un τ 9 9) / 60))), (6, .int (nI 0))]) rfl ?_
  exact lp3 _ M 0 (Nat.zero_le _) (frm.rf _ _) (fun x hx => absurd hx (Nat.not_lt_zero _)) (Nat.lt_succ_self _)

