theorem baseW_s (τ : Mu) (c x w : Nat) : baseW τ c x (w + 1) = baseW τ c x w + (if lastD w / 30 = x then overP τ c w else 0) := by
  show baseW τ c x w + (if lastD (0 + w) / 30 = x then overP τ c (0 + w) else 0) = _
  rw [Nat.zero_add]
set_option maxHeartbeats 4000000 in
set_option maxRecDepth 100000 in
theorem c_X3_fillWorked (l : Launch) (hfl : l.flags = flags0) (G : gW) (M : Mem) (f : Nat → Nat) (hb : Blk tbCo (mK M) (mN M) (mR M) f) (τ : Mu) (hw : WF τ) (c : Nat) (hc : c < un τ 9 9) (hf : CoF τ c (mI M) f) : CT l yX3_fillWorked cX3_fillWorked 3 none 3 0 0 79 G M [.ref (f 0)] (fun v M' => v = none ∧ frm (fun a => a = f 7 ∨ a = f 8) M M' ∧ CoW τ c (mI M') (mL M') f) := by
  refine CT.of hfl rfl (Nat.le_of_ble_eq_true rfl) ?_
  intro pp ee ss mm ar bw mt cd C hgX hr hini
  have h9 := hw.nc.2
  have hcf := (hw.cf c hc).2
  have hct := (hw.ct c hc).2
  have hft := hw.cft c hc
  have hcn := (hw.cn c hc).2
  have hcn0 := hw.cn0 c hc
  obtain ⟨hf0, hf1, hf2, hf3, hf4, hf5, hpy, hmi⟩ := id hf
  have hb0 := hb
  have hfO := hf
  refine V.eLo (lo' := [(0, .ref (f 0))]) rfl ?_
  refine r_iconst C (v := nI 0) dX3_fillWorked_0 (by decide) ?_
  refine r_istore_n C (lo' := [(1, .int (nI 0)), (0, .ref (f 0))]) dX3_fillWorked_1 rfl (by decide) rfl ?_
  have lp2 : ∀ (k2 : Nat) (M1 : Mem) (k : Nat) (hk : k ≤ 24) (hfm : frm (fun a => a = f 7 ∨ a = f 8) M M1) (h7 : ∀ x, x < k → mL M1 (f 7) x = lN (baseD τ c x)) (h8 : ∀ x, x < k → mI M1 (f 8) x = nI (hrC τ c x 30)), 25 - k < k2 → V pp l ee ({ frames := 3, cells := 0, slots := 0, locals := 79 } : Room) ss mm ar bw mt cd G (MQ bw (Ke G (fun v M' => v = none ∧ frm (fun a => a = f 7 ∨ a = f 8) M M' ∧ CoW τ c (mI M') (mL M') f)) ar ss 0 0 (gA G)) 3 M1 0 0 2 [(0, .ref (f 0)), (1, .int (nI k))] [] := by
    intro k2
    induction k2 with
    | zero => intro M1 k hk hfm h7 h8 hz2; exact absurd hz2 (Nat.not_lt_zero _)
    | succ k2 ih2 =>
      intro M1 k hk hfm h7 h8 hz2
      have hb := hfm.blk hb0
      have hf := hfO.fr' hfm (n78 hb (by decide)) (n78 hb (by decide)) (n78 hb (by decide))
      obtain ⟨hf0, hf1, hf2, hf3, hf4, hf5, hpy, hmi⟩ := id hf
      refine r_iload_n C 1 dX3_fillWorked_2 rfl rfl ?_
      refine r_bipush C (v := nI 24) dX3_fillWorked_3 (by decide) ?_
      refine r_icmp_geN C (t := 19) (by omega) (by omega) dX3_fillWorked_5 (by decide) (fun c5 => ?_) (fun c5 => ?_)
      · skip
        have ek : k = 24 := by omega
        subst ek
        refine r_iconst C (v := nI 0) dX3_fillWorked_19 (by decide) ?_
        refine r_istore_n C (lo' := [(1, .int (nI 0)), (0, .ref (f 0))]) dX3_fillWorked_20 rfl (by decide) rfl ?_
        have lp21 : ∀ (k21 : Nat) (M2 : Mem) (w : Nat) (hwl : w ≤ 103) (hfm2 : frm (fun a => a = f 7 ∨ a = f 8) M M2) (h7b : ∀ x, x < 24 → mL M2 (f 7) x = lN (baseD τ c x + baseW τ c x w)) (h8b : ∀ x, x < 24 → mI M2 (f 8) x = nI (hrC τ c x 30)), 104 - w < k21 → V pp l ee ({ frames := 3, cells := 0, slots := 0, locals := 79 } : Room) ss mm ar bw mt cd G (MQ bw (Ke G (fun v M' => v = none ∧ frm (fun a => a = f 7 ∨ a = f 8) M M' ∧ CoW τ c (mI M') (mL M') f)) ar ss 0 0 (gA G)) 3 M2 0 0 21 [(0, .ref (f 0)), (1, .int (nI w))] [] := by
          intro k21
          induction k21 with
          | zero => intro M2 w hwl hfm2 h7b h8b hz21; exact absurd hz21 (Nat.not_lt_zero _)
          | succ k21 ih21 =>
            intro M2 w hwl hfm2 h7b h8b hz21
            have hfm := hfm2
            have hb := hfm.blk hb0
            have hf := hfO.fr' hfm (n78 hb (by decide)) (n78 hb (by decide)) (n78 hb (by decide))
            obtain ⟨hf0, hf1, hf2, hf3, hf4, hf5, hpy, hmi⟩ := id hf
            refine r_iload_n C 1 dX3_fillWorked_21 rfl rfl ?_
            refine r_bipush C (v := nI 103) dX3_fillWorked_22 (by decide) ?_
            refine r_icmp_geN C (t := 71) (by omega) (by omega) dX3_fillWorked_24 (by decide) (fun c24 => ?_) (fun c24 => ?_)
            · skip
              have ew : w = 103 := by omega
              subst ew
              exact r_vret C hr (⟨rfl, hfm2, fun x hx => ⟨h7b x hx, h8b x hx⟩⟩) (by first | exact Nat.zero_le _ | decide) (by first | exact Nat.zero_le _ | decide) dX3_fillWorked_71
            · skip
              have hld : lastD w < 720 := lastD_lt w
              have hol := overN_le (w := w) hw (show c < 10 by omega) (by omega)
              refine r_iload_n C 1 dX3_fillWorked_27 rfl rfl ?_
              refine r_bipush C (v := nI 7) dX3_fillWorked_28 (by decide) ?_
              refine r_imulN C dX3_fillWorked_30 ?_
              refine r_bipush C (v := nI 7) dX3_fillWorked_31 (by decide) ?_
              refine r_iaddN C dX3_fillWorked_33 ?_
              refine r_sipush C (v := nI 720) dX3_fillWorked_34 (by decide) ?_
              refine r_minIN C km_X3_87 (by omega) (by omega) (Nat.le_of_ble_eq_true rfl) (Nat.le_of_ble_eq_true rfl) (by first | exact Nat.zero_le _ | decide) (by first | exact Nat.zero_le _ | decide) dX3_fillWorked_37 ?_
              refine r_iconst C (v := nI 1) dX3_fillWorked_40 (by decide) ?_
              refine r_isubN C (by omega) dX3_fillWorked_41 ?_
              refine V.ei (y := nI (lastD w)) (congrArg nI (by unfold lastD; split <;> omega)) ?_
              refine r_istore_n C (lo' := [(2, .int (nI (lastD w))), (0, .ref (f 0)), (1, .int (nI w))]) dX3_fillWorked_42 rfl (by decide) rfl ?_
              refine r_aload_n C 1 dX3_fillWorked_43 rfl rfl ?_
              refine r_getR C (b := (f 7)) fl_X3_34 rfl (hb.k 0 6 rfl) (hb.r 0 12 7 rfl) dX3_fillWorked_44 ?_
              refine r_iload_n C 0 dX3_fillWorked_47 rfl rfl ?_
              refine r_bipush C (v := nI 30) dX3_fillWorked_48 (by decide) ?_
              refine r_idivN C (by omega) (by omega) (by omega) dX3_fillWorked_50 ?_
              refine r_dup2 C dX3_fillWorked_51 rfl rfl ?_
              refine r_laloadN C (hb.k 7 21 rfl) (hb.n 7 24 rfl) (by omega) (by omega) dX3_fillWorked_52 ?_
              refine V.el (y := lN (baseD τ c (lastD w / 30) + baseW τ c (lastD w / 30) w)) (h7b _ (by omega)) ?_
              refine r_aload_n C 1 dX3_fillWorked_53 rfl rfl ?_
              refine r_aload_n C 1 dX3_fillWorked_54 rfl rfl ?_
              refine r_iload_n C 2 dX3_fillWorked_55 rfl rfl ?_
              refine r_callV C hgX (ci := 5) ml_X3_96 im_X3_overtimeIn se_X3_overtimeIn rfl rfl (hb.k 0 6 rfl) (c_X3_overtimeIn l hfl G M2 f hb τ hw c hc hf w (by omega)) rfl (Nat.le_of_ble_eq_true rfl) ⟨Nat.le_of_ble_eq_true rfl, Nat.le_of_ble_eq_true rfl⟩ ⟨Nat.le_of_ble_eq_true rfl, Nat.le_of_ble_eq_true rfl⟩ dX3_fillWorked_56 rfl ?_
              rintro _ _ ⟨rfl, rfl⟩
              refine V.eSt (st' := [.int (nI (overN τ c w)), .ref (f 0), .long (lN (baseD τ c (lastD w / 30) + baseW τ c (lastD w / 30) w)), .int (nI ((lastD w) / 30)), .ref (f 7)]) rfl ?_
              refine r_iload_n C 0 dX3_fillWorked_59 rfl rfl ?_
              refine r_callV C hgX (ci := 5) ml_X3_99 im_X3_overtimePay se_X3_overtimePay rfl rfl (hb.k 0 6 rfl) (c_X3_overtimePay l hfl G M2 f hb τ hw c hc hf (overN τ c w) (lastD w) (hol) (by omega)) rfl (Nat.le_of_ble_eq_true rfl) ⟨Nat.le_of_ble_eq_true rfl, Nat.le_of_ble_eq_true rfl⟩ ⟨Nat.le_of_ble_eq_true rfl, Nat.le_of_ble_eq_true rfl⟩ dX3_fillWorked_60 rfl ?_
              rintro _ _ ⟨rfl, rfl⟩
              refine V.eSt (st' := [.long (lN (rN (hrC' τ c (lastD w) * (overN τ c w)) 120)), .long (lN (baseD τ c (lastD w / 30) + baseW τ c (lastD w / 30) w)), .int (nI ((lastD w) / 30)), .ref (f 7)]) rfl ?_
              refine r_laddN C dX3_fillWorked_63 ?_
              refine r_lastoreN C (hb.k 7 21 rfl) (hb.n 7 24 rfl) (by omega) (by omega) dX3_fillWorked_64 ?_
              refine r_iinc C (v := nI (w + 1)) (lo' := [(1, .int (nI (w + 1))), (2, .int (nI (lastD w))), (0, .ref (f 0))]) 2 dX3_fillWorked_65 rfl (nI_addI w 1) (by decide) rfl ?_
              refine r_goto C (t := 21) dX3_fillWorked_68 (by decide) ?_
              refine V.sub [2, 0] (lo' := [(0, .ref (f 0)), (1, .int (nI (w + 1)))]) rfl ?_
              exact ih21 (wL M2 (f 7) ((lastD w) / 30) (lN (baseD τ c (lastD w / 30) + baseW τ c (lastD w / 30) w + (rN (hrC' τ c (lastD w) * (overN τ c w)) 120)))) (w + 1) (by omega) (hfm2.wl _ _ (.inl rfl)) (fun x hx => by by_cases e : x = lastD w / 30; (subst e; rw [wL_i, baseW_s, if_pos rfl, ← ov_hr hw hc (by omega), Nat.add_assoc]); (rw [wL_k e, h7b x hx, baseW_s, if_neg (fun q => e q.symm), Nat.add_zero])) h8b (by omega)
        refine V.sub [1, 0] (lo' := [(0, .ref (f 0)), (1, .int (nI 0))]) rfl ?_
        exact lp21 _ M1 0 (Nat.zero_le _) hfm (fun x hx => h7 x hx) h8 (Nat.lt_succ_self _)
      · skip
        refine r_aload_n C 0 dX3_fillWorked_8 rfl rfl ?_
        refine r_iload_n C 1 dX3_fillWorked_9 rfl rfl ?_
        refine r_callV C hgX (ci := 5) ml_X3_93 im_X3_fillMonth se_X3_fillMonth rfl rfl (hb.k 0 6 rfl) (c_X3_fillMonth l hfl G M1 f hb τ hw c hc hf k (by omega)) rfl (Nat.le_of_ble_eq_true rfl) ⟨Nat.le_of_ble_eq_true rfl, Nat.le_of_ble_eq_true rfl⟩ ⟨Nat.le_of_ble_eq_true rfl, Nat.le_of_ble_eq_true rfl⟩ dX3_fillWorked_10 rfl ?_
        rintro _ My2 ⟨rfl, hfm2, hwk2, hwo2, hik2, hio2⟩
        refine r_iinc C (v := nI (k + 1)) (lo' := [(1, .int (nI (k + 1))), (0, .ref (f 0))]) 1 dX3_fillWorked_13 rfl (nI_addI k 1) (by decide) rfl ?_
        refine r_goto C (t := 2) dX3_fillWorked_16 (by decide) ?_
        refine V.sub [1, 0] (lo' := [(0, .ref (f 0)), (1, .int (nI (k + 1)))]) rfl ?_
        exact ih2 My2 (k + 1) (by omega) (hfm.tr hfm2) (fun x hx => by by_cases e : x = k; (subst e; exact hwk2); exact (hwo2 x e).trans (h7 x (by omega))) (fun x hx => by by_cases e : x = k; (subst e; exact hik2); exact (hio2 x e).trans (h8 x (by omega))) (by omega)
  refine V.sub [1, 0] (lo' := [(0, .ref (f 0)), (1, .int (nI 0))]) rfl ?_
  exact lp2 _ M 0 (Nat.zero_le _) (frm.rf _ _) (fun x hx => absurd hx (Nat.not_lt_zero _)) (fun x hx => absurd hx (Nat.not_lt_zero _)) (Nat.lt_succ_self _)
theorem rf_a {τ : Mu} {c : Nat} {M M1 : Mem} {f : Nat → Nat} (hb : Blk tbCo (mK M1) (mN M1) (mR M1) f) (hfm : frm (fun a => a = f 9) M M1) (h9 : ∀ x, x < 24 → mL M1 (f 9) x = lN 0) (hcw : mI M (f 0) 11 = 0 → CoW τ c (mI M) (mL M) f) (c25 : mI M1 (f 0) 11 = 0) :
    (none : Option Value) = none ∧ frm (fun a => a = f 0 ∨ a = f 9 ∨ a = f 7 ∨ a = f 8) M M1 ∧ (∀ k, k ≠ 11 → mI M1 (f 0) k = mI M (f 0) k) ∧ mI M1 (f 0) 11 = 0 ∧ (∀ x, x < 24 → mL M1 (f 9) x = lN 0) ∧ CoW τ c (mI M1) (mL M1) f := by
  have h0 := hfm.i (hb.ne 0 9 rfl)
  refine ⟨rfl, hfm.mono (fun a h => .inr (.inl h)), fun k _ => congrFun h0 k, c25, h9, fun x hx => ?_⟩
  rw [hfm.l (hb.ne 7 9 rfl), hfm.i (hb.ne 8 9 rfl)]
  exact hcw (by rw [← h0]; exact c25) x hx
theorem rf_b {τ : Mu} {c : Nat} {M M1 M2 : Mem} {f : Nat → Nat} (hb : Blk tbCo (mK M2) (mN M2) (mR M2) f) (hfm : frm (fun a => a = f 9) M M1) (h9 : ∀ x, x < 24 → mL M1 (f 9) x = lN 0) (hfx : frm (fun a => a = f 7 ∨ a = f 8) M1 M2) (hcx : CoW τ c (mI M2) (mL M2) f) :
    (none : Option Value) = none ∧ frm (fun a => a = f 0 ∨ a = f 9 ∨ a = f 7 ∨ a = f 8) M (wI M2 (f 0) 11 (nI 0)) ∧ (∀ k, k ≠ 11 → mI (wI M2 (f 0) 11 (nI 0)) (f 0) k = mI M (f 0) k) ∧ mI (wI M2 (f 0) 11 (nI 0)) (f 0) 11 = 0 ∧ (∀ x, x < 24 → mL (wI M2 (f 0) 11 (nI 0)) (f 9) x = lN 0) ∧ CoW τ c (mI (wI M2 (f 0) 11 (nI 0))) (mL (wI M2 (f 0) 11 (nI 0))) f := by
  have h0 := (hfx.i (n78 hb (show 0 < 7 by decide))).trans (hfm.i (hb.ne 0 9 rfl))
  refine ⟨rfl, ((hfm.mono (fun a h => .inr (.inl h))).tr (hfx.mono (fun a h => .inr (.inr h)))).wi _ _ (.inl rfl), fun k hk => (wI_k hk).trans (congrFun h0 k), wI_i, fun x hx => ?_, fun x hx => ?_⟩
  · exact (congrFun (hfx.l (fun q => q.elim (hb.ne 9 7 rfl) (hb.ne 9 8 rfl))) x).trans (h9 x hx)
  · exact ⟨(hcx x hx).1, (congrFun (wI_a (hb.ne 8 0 rfl)) x).trans (hcx x hx).2⟩
set_option maxHeartbeats 4000000 in
set_option maxRecDepth 100000 in
theorem c_X3_refresh (l : Launch) (hfl : l.flags = flags0) (G : gW) (M : Mem) (f : Nat → Nat) (hb : Blk tbCo (mK M) (mN M) (mR M) f) (τ : Mu) (hw : WF τ) (c : Nat) (hc : c < un τ 9 9) (hf : CoF τ c (mI M) f) (hcw : mI M (f 0) 11 = 0 → CoW τ c (mI M) (mL M) f) : CT l yX3_refresh cX3_refresh 2 none 4 0 0 101 G M [.ref (f 0)] (fun v M' => v = none ∧ frm (fun a => a = f 0 ∨ a = f 9 ∨ a = f 7 ∨ a = f 8) M M' ∧ (∀ k, k ≠ 11 → mI M' (f 0) k = mI M (f 0) k) ∧ mI M' (f 0) 11 = 0 ∧ (∀ x, x < 24 → mL M' (f 9) x = lN 0) ∧ CoW τ c (mI M') (mL M') f) := by
  refine CT.of hfl rfl (Nat.le_of_ble_eq_true rfl) ?_
  intro pp ee ss mm ar bw mt cd C hgX hr hini
  have h9 := hw.nc.2
  have hcf := (hw.cf c hc).2
  have hct := (hw.ct c hc).2
  have hft := hw.cft c hc
  have hcn := (hw.cn c hc).2
  have hcn0 := hw.cn0 c hc
  obtain ⟨hf0, hf1, hf2, hf3, hf4, hf5, hpy, hmi⟩ := id hf
  refine V.eLo (lo' := [(0, .ref (f 0))]) rfl ?_
  refine r_iconst C (v := nI 0) dX3_refresh_0 (by decide) ?_
  refine r_istore_n C (lo' := [(1, .int (nI 0)), (0, .ref (f 0))]) dX3_refresh_1 rfl (by decide) rfl ?_
  have lp2 : ∀ (k2 : Nat) (M1 : Mem) (k : Nat) (hk : k ≤ 24) (hfm : frm (fun a => a = f 9) M M1) (h9 : ∀ x, x < k → mL M1 (f 9) x = lN 0), 25 - k < k2 → V pp l ee ({ frames := 4, cells := 0, slots := 0, locals := 101 } : Room) ss mm ar bw mt cd G (MQ bw (Ke G (fun v M' => v = none ∧ frm (fun a => a = f 0 ∨ a = f 9 ∨ a = f 7 ∨ a = f 8) M M' ∧ (∀ k, k ≠ 11 → mI M' (f 0) k = mI M (f 0) k) ∧ mI M' (f 0) 11 = 0 ∧ (∀ x, x < 24 → mL M' (f 9) x = lN 0) ∧ CoW τ c (mI M') (mL M') f)) ar ss 0 0 (gA G)) 2 M1 0 0 2 [(0, .ref (f 0)), (1, .int (nI k))] [] := by
    intro k2
    induction k2 with
    | zero => intro M1 k hk hfm h9 hz2; exact absurd hz2 (Nat.not_lt_zero _)
    | succ k2 ih2 =>
      intro M1 k hk hfm h9 hz2
      have hb := hfm.blk hb
      have hf := hf.fr' hfm (hb.ne 0 9 rfl) (hb.ne 2 9 rfl) (hb.ne 4 9 rfl)
      refine r_iload_n C 1 dX3_refresh_2 rfl rfl ?_
      refine r_bipush C (v := nI 24) dX3_refresh_3 (by decide) ?_
      refine r_icmp_geN C (t := 21) (by omega) (by omega) dX3_refresh_5 (by decide) (fun c5 => ?_) (fun c5 => ?_)
      · skip
        have ek : k = 24 := by omega
        subst ek
        have h0 : mI M1 (f 0) = mI M (f 0) := hfm.i (hb.ne 0 9 rfl)
        refine r_aload_n C 0 dX3_refresh_21 rfl rfl ?_
        refine r_getI C fl_X3_30 rfl (hb.k 0 6 rfl) dX3_refresh_22 ?_
        refine r_if_eq C (t := 37) dX3_refresh_25 (by decide) (fun c25 => ?_) (fun c25 => ?_)
        · skip
          exact r_vret C hr (rf_a hb hfm h9 hcw c25) (by first | exact Nat.zero_le _ | decide) (by first | exact Nat.zero_le _ | decide) dX3_refresh_37
        · skip
          refine r_aload_n C 0 dX3_refresh_28 rfl rfl ?_
          refine r_callV C hgX (ci := 5) ml_X3_90 im_X3_fillWorked se_X3_fillWorked rfl rfl (hb.k 0 6 rfl) (c_X3_fillWorked l hfl G M1 f hb τ hw c hc hf) rfl (Nat.le_of_ble_eq_true rfl) ⟨Nat.le_of_ble_eq_true rfl, Nat.le_of_ble_eq_true rfl⟩ ⟨Nat.le_of_ble_eq_true rfl, Nat.le_of_ble_eq_true rfl⟩ dX3_refresh_29 rfl ?_
          rintro _ My1 ⟨rfl, hfx, hcx⟩
          have hb := hfx.blk hb
          refine r_aload_n C 0 dX3_refresh_32 rfl rfl ?_
          refine r_iconst C (v := nI 0) dX3_refresh_33 (by decide) ?_
          refine r_putZ C fl_X3_30 (by decide) (hb.k 0 6 rfl) dX3_refresh_34 ?_
          exact r_vret C hr (rf_b hb hfm h9 hfx hcx) (by first | exact Nat.zero_le _ | decide) (by first | exact Nat.zero_le _ | decide) dX3_refresh_37
      · skip
        refine r_aload_n C 0 dX3_refresh_8 rfl rfl ?_
        refine r_getR C (b := (f 9)) fl_X3_41 rfl (hb.k 0 6 rfl) (hb.r 0 14 9 rfl) dX3_refresh_9 ?_
        refine r_iload_n C 1 dX3_refresh_12 rfl rfl ?_
        refine r_lconst C (v := lN 0) dX3_refresh_13 (by decide) ?_
        refine r_lastoreN C (hb.k 9 21 rfl) (hb.n 9 24 rfl) (by omega) (by omega) dX3_refresh_14 ?_
        refine r_iinc C (v := nI (k + 1)) (lo' := [(1, .int (nI (k + 1))), (0, .ref (f 0))]) 1 dX3_refresh_15 rfl (nI_addI k 1) (by decide) rfl ?_
        refine r_goto C (t := 2) dX3_refresh_18 (by decide) ?_
        refine V.sub [1, 0] (lo' := [(0, .ref (f 0)), (1, .int (nI (k + 1)))]) rfl ?_
        exact ih2 (wL M1 (f 9) k (lN 0)) (k + 1) (by omega) (hfm.wl _ _ rfl) (fun x hx => by by_cases e : x = k; (subst e; exact wL_i); exact (wL_k e).trans (h9 x (by omega))) (by omega)
  refine V.sub [1, 0] (lo' := [(0, .ref (f 0)), (1, .int (nI 0))]) rfl ?_
  exact lp2 _ M 0 (Nat.zero_le _) (frm.rf _ _) (fun x hx => absurd hx (Nat.not_lt_zero _)) (Nat.lt_succ_self _)

