theorem CoF.fr {τ : Mu} {c : Nat} {A : Nat → Prop} {M M' : Mem} {f : Nat → Nat} (h : CoF τ c (mI M) f) (g : frm A M M') (h0 : ∀ k, k < 6 → mI M' (f 0) k = mI M (f 0) k) (h2 : ¬ A (f 2)) (h4 : ¬ A (f 4)) : CoF τ c (mI M') f := h.cg h0 (g.i h2) (g.i h4)
theorem CoF.fr' {τ : Mu} {c : Nat} {A : Nat → Prop} {M M' : Mem} {f : Nat → Nat} (h : CoF τ c (mI M) f) (g : frm A M M') (h0 : ¬ A (f 0)) (h2 : ¬ A (f 2)) (h4 : ¬ A (f 4)) : CoF τ c (mI M') f := h.cg (fun k _ => congrFun (g.i h0) k) (g.i h2) (g.i h4)
theorem n78 {K N : Nat → Nat} {R : Nat → Nat → Option Nat} {f : Nat → Nat} (hb : Blk tbCo K N R f) {o : Nat} (h : o < 7) : ¬ (f o = f 7 ∨ f o = f 8) := fun q => q.elim (hb.neq (show o < 10 by omega) (show 7 < 10 by decide) (by omega)) (hb.neq (show o < 10 by omega) (show 8 < 10 by decide) (by omega))
set_option maxHeartbeats 4000000 in
set_option maxRecDepth 100000 in
theorem c_X3_fillMonth (l : Launch) (hfl : l.flags = flags0) (G : gW) (M : Mem) (f : Nat → Nat) (hb : Blk tbCo (mK M) (mN M) (mR M) f) (τ : Mu) (hw : WF τ) (c : Nat) (hc : c < un τ 9 9) (hf : CoF τ c (mI M) f) (m : Nat) (hmn : m < 24) : CT l yX3_fillMonth cX3_fillMonth 7 none 2 0 0 53 G M [.ref (f 0), .int (nI m)] (fun v M' => v = none ∧ frm (fun a => a = f 7 ∨ a = f 8) M M' ∧ mL M' (f 7) m = lN (baseD τ c m) ∧ (∀ k, k ≠ m → mL M' (f 7) k = mL M (f 7) k) ∧ mI M' (f 8) m = nI (hrC τ c m 30) ∧ ∀ k, k ≠ m → mI M' (f 8) k = mI M (f 8) k) := by
  refine CT.of hfl rfl (Nat.le_of_ble_eq_true rfl) ?_
  intro pp ee ss mm ar bw mt cd C hgX hr hini
  have h9 := hw.nc.2
  have hcf := (hw.cf c hc).2
  have hct := (hw.ct c hc).2
  have hft := hw.cft c hc
  have hcn := (hw.cn c hc).2
  have hcn0 := hw.cn0 c hc
  obtain ⟨hf0, hf1, hf2, hf3, hf4, hf5, hpy, hmi⟩ := id hf
  refine V.eLo (lo' := [(0, .ref (f 0)), (1, .int (nI m))]) rfl ?_
  refine r_lconst C (v := lN 0) dX3_fillMonth_0 (by decide) ?_
  refine r_lstore_n C (lo' := [(2, .long (lN 0)), (0, .ref (f 0)), (1, .int (nI m))]) dX3_fillMonth_1 rfl (by decide) rfl ?_
  refine r_iconst C (v := nI 0) dX3_fillMonth_2 (by decide) ?_
  refine r_istore C (lo' := [(4, .int (nI 0)), (2, .long (lN 0)), (0, .ref (f 0)), (1, .int (nI m))]) dX3_fillMonth_3 (by decide) rfl ?_
  refine r_iload_n C 3 dX3_fillMonth_5 rfl rfl ?_
  refine r_bipush C (v := nI 30) dX3_fillMonth_6 (by decide) ?_
  refine r_imulN C dX3_fillMonth_8 ?_
  refine V.ei (y := nI (30 * m)) (congrArg nI (Nat.mul_comm _ _)) ?_
  refine r_istore C (lo' := [(5, .int (nI (30 * m))), (4, .int (nI 0)), (2, .long (lN 0)), (0, .ref (f 0)), (1, .int (nI m))]) dX3_fillMonth_9 (by decide) rfl ?_
  refine r_iload C 0 dX3_fillMonth_11 rfl ?_
  refine r_istore C (lo' := [(6, .int (nI (30 * m))), (5, .int (nI (30 * m))), (4, .int (nI 0)), (2, .long (lN 0)), (0, .ref (f 0)), (1, .int (nI m))]) dX3_fillMonth_13 (by decide) rfl ?_
  have lp15 : ∀ (k15 : Nat) (n : Nat) (hn : n ≤ 30), 31 - n < k15 → V pp l ee ({ frames := 2, cells := 0, slots := 0, locals := 53 } : Room) ss mm ar bw mt cd G (MQ bw (Ke G (fun v M' => v = none ∧ frm (fun a => a = f 7 ∨ a = f 8) M M' ∧ mL M' (f 7) m = lN (baseD τ c m) ∧ (∀ k, k ≠ m → mL M' (f 7) k = mL M (f 7) k) ∧ mI M' (f 8) m = nI (hrC τ c m 30) ∧ ∀ k, k ≠ m → mI M' (f 8) k = mI M (f 8) k)) ar ss 0 0 (gA G)) 7 M 0 0 15 [(0, .ref (f 0)), (1, .int (nI m)), (2, .long (lN (sumN (dayN τ c) (30 * m) n))), (4, .int (nI (hrC τ c m n))), (5, .int (nI (30 * m))), (6, .int (nI (30 * m + n)))] [] := by
    intro k15
    induction k15 with
    | zero => intro n hn hz15; exact absurd hz15 (Nat.not_lt_zero _)
    | succ k15 ih15 =>
      intro n hn hz15
      have hhr := hrC_le (m := m) (n := n) hw (show c < 10 by omega) (by omega)
      have hsd := sumD_le (m := 30 * m) (n := n) hw hc (by omega)
      refine r_iload C 5 dX3_fillMonth_15 rfl ?_
      refine r_iload C 4 dX3_fillMonth_17 rfl ?_
      refine r_bipush C (v := nI 30) dX3_fillMonth_19 (by decide) ?_
      refine r_iaddN C dX3_fillMonth_21 ?_
      refine r_icmp_geN C (t := 91) (by omega) (by omega) dX3_fillMonth_22 (by decide) (fun c22 => ?_) (fun c22 => ?_)
      · skip
        have en : n = 30 := by omega
        subst en
        refine r_aload_n C 0 dX3_fillMonth_91 rfl rfl ?_
        refine r_getR C (b := (f 8)) fl_X3_38 rfl (hb.k 0 6 rfl) (hb.r 0 13 8 rfl) dX3_fillMonth_92 ?_
        refine r_iload_n C 1 dX3_fillMonth_95 rfl rfl ?_
        refine r_iload C 3 dX3_fillMonth_96 rfl ?_
        refine r_iastoreN C (hb.k 8 20 rfl) (hb.n 8 24 rfl) (by omega) (by omega) dX3_fillMonth_98 ?_
        refine r_aload_n C 0 dX3_fillMonth_99 rfl rfl ?_
        refine r_getR C (b := (f 7)) fl_X3_34 rfl (hb.k 0 6 rfl) (hb.r 0 12 7 rfl) dX3_fillMonth_100 ?_
        refine r_iload_n C 1 dX3_fillMonth_103 rfl rfl ?_
        refine r_lload_n C 2 dX3_fillMonth_104 rfl rfl ?_
        have jn121 : V pp l ee ({ frames := 2, cells := 0, slots := 0, locals := 53 } : Room) ss mm ar bw mt cd G (MQ bw (Ke G (fun v M' => v = none ∧ frm (fun a => a = f 7 ∨ a = f 8) M M' ∧ mL M' (f 7) m = lN (baseD τ c m) ∧ (∀ k, k ≠ m → mL M' (f 7) k = mL M (f 7) k) ∧ mI M' (f 8) m = nI (hrC τ c m 30) ∧ ∀ k, k ≠ m → mI M' (f 8) k = mI M (f 8) k)) ar ss 0 0 (gA G)) 7 (wI M (f 8) m (nI (hrC τ c m 30))) 0 0 121 [(0, .ref (f 0)), (1, .int (nI m)), (2, .long (lN (sumN (dayN τ c) (30 * m) 30))), (4, .int (nI (hrC τ c m 30))), (5, .int (nI (30 * m))), (6, .int (nI (30 * m + 30)))] [.long (lN (if un τ 4 c = 1 then 60 else 30)), .long (lN (sumN (dayN τ c) (30 * m) 30)), .int (nI m), .ref (f 7)] := by
          skip
          have hif : 0 < (if un τ 4 c = 1 then 60 else 30) ∧ (if un τ 4 c = 1 then 60 else 30) ≤ 60 := by split <;> omega
          refine r_callS C hgX ml_X3_107 st_X2_rounded (c_X2_rounded l hfl G (wI M (f 8) m (nI (hrC τ c m 30))) (lN (sumN (dayN τ c) (30 * m) 30)) (if un τ 4 c = 1 then 60 else 30) (by omega)) rfl (Nat.le_of_ble_eq_true rfl) ⟨Nat.le_of_ble_eq_true rfl, Nat.le_of_ble_eq_true rfl⟩ ⟨Nat.le_of_ble_eq_true rfl, Nat.le_of_ble_eq_true rfl⟩ dX3_fillMonth_121 rfl ?_
          rintro _ _ ⟨rfl, rfl⟩
          refine V.eSt (st' := [.long (rdF (lN (sumN (dayN τ c) (30 * m) 30)) (lN (if un τ 4 c = 1 then 60 else 30))), .int (nI m), .ref (f 7)]) rfl ?_
          refine V.el (y := lN (baseD τ c m)) ((rdF_rnd (by omega) (by omega)).trans (rndL_N (by omega) (by omega) (by omega))) ?_
          refine r_lastoreN C (hb.k 7 21 rfl) (hb.n 7 24 rfl) (by omega) (by omega) dX3_fillMonth_124 ?_
          exact r_vret C hr (⟨rfl, ((frm.rf _ _).wi _ _ (.inr rfl)).wl _ _ (.inl rfl), wL_i, fun k hk => wL_k hk, wI_i, fun k hk => wI_k hk⟩) (by first | exact Nat.zero_le _ | decide) (by first | exact Nat.zero_le _ | decide) dX3_fillMonth_125
        refine r_aload_n C 0 dX3_fillMonth_105 rfl rfl ?_
        refine r_getI C fl_X3_57 rfl (hb.k 0 6 rfl) dX3_fillMonth_106 ?_
        refine V.ei (y := bI (decide (un τ 4 c = 1))) ((congrFun (wI_a (hb.ne 0 8 rfl)) 4).trans hf4) ?_
        refine r_if_eqB C (t := 118) dX3_fillMonth_109 (by decide) (fun c109 => ?_) (fun c109 => ?_)
        · skip
          have c109d := of_decide_eq_false c109
          refine r_ldc2 C (v := 30) kl_X3_105 dX3_fillMonth_118 ?_
          refine V.el (y := lN 30) (by decide) ?_
          refine V.el (y := lN (if un τ 4 c = 1 then 60 else 30)) (congrArg lN (by rw [if_neg (of_decide_eq_false c109)])) ?_
          exact jn121
        · skip
          have c109d := of_decide_eq_true c109
          refine r_ldc2 C (v := 60) kl_X3_103 dX3_fillMonth_112 ?_
          refine V.el (y := lN 60) (by decide) ?_
          refine r_goto C (t := 121) dX3_fillMonth_115 (by decide) ?_
          refine V.el (y := lN (if un τ 4 c = 1 then 60 else 30)) (congrArg lN (by rw [if_pos (of_decide_eq_true c109)])) ?_
          exact jn121
      · skip
        have hm7 := mins_le hw (i := 720 * c + (30 * m + n)) (by omega)
        have hpl := pyC_le hw (d := 30 * m + n) hc
        have hbx : un τ 8 (720 * c + (30 * m + n)) * pyC τ c (30 * m + n) ≤ 57600 * 1000000 := Nat.mul_le_mul hm7 hpl
        refine r_iload C 3 dX3_fillMonth_25 rfl ?_
        refine r_aload_n C 0 dX3_fillMonth_27 rfl rfl ?_
        refine r_getR C (b := (f 4)) fl_X3_20 rfl (hb.k 0 6 rfl) (hb.r 0 7 4 rfl) dX3_fillMonth_28 ?_
        refine r_iload C 5 dX3_fillMonth_31 rfl ?_
        refine r_ialoadN C (hb.k 4 20 rfl) (hb.n 4 720 rfl) (by omega) (by omega) dX3_fillMonth_33 ?_
        refine V.ei (y := nI (un τ 8 (720 * c + (30 * m + n)))) (hmi _ (by omega)) ?_
        refine r_iaddN C dX3_fillMonth_34 ?_
        refine r_istore C (lo' := [(4, .int (nI (hrC τ c m n + (un τ 8 (720 * c + (30 * m + n)))))), (0, .ref (f 0)), (1, .int (nI m)), (2, .long (lN (sumN (dayN τ c) (30 * m) n))), (5, .int (nI (30 * m))), (6, .int (nI (30 * m + n)))]) dX3_fillMonth_35 (by decide) rfl ?_
        refine r_aload_n C 1 dX3_fillMonth_37 rfl rfl ?_
        refine r_getI C fl_X3_57 rfl (hb.k 0 6 rfl) dX3_fillMonth_38 ?_
        refine V.ei (y := bI (decide (un τ 4 c = 1))) (hf4) ?_
        refine r_if_eqB C (t := 66) dX3_fillMonth_41 (by decide) (fun c41 => ?_) (fun c41 => ?_)
        · skip
          have c41d := of_decide_eq_false c41
          refine r_aload_n C 1 dX3_fillMonth_66 rfl rfl ?_
          refine r_iload C 5 dX3_fillMonth_67 rfl ?_
          refine r_callV C hgX (ci := 5) ml_X3_63 im_X3_covers se_X3_covers rfl rfl (hb.k 0 6 rfl) (c_X3_covers l hfl G M f hb τ hw c hc hf (nI (30 * m + n))) rfl (Nat.le_of_ble_eq_true rfl) ⟨Nat.le_of_ble_eq_true rfl, Nat.le_of_ble_eq_true rfl⟩ ⟨Nat.le_of_ble_eq_true rfl, Nat.le_of_ble_eq_true rfl⟩ dX3_fillMonth_69 rfl ?_
          rintro _ _ ⟨rfl, rfl⟩
          refine V.eSt (st' := [.int (bI (cvB τ c (nI (30 * m + n))))]) rfl ?_
          refine r_if_eqB C (t := 85) dX3_fillMonth_72 (by decide) (fun c72 => ?_) (fun c72 => ?_)
          · skip
            refine r_iinc C (v := nI (30 * m + n + 1)) (lo' := [(6, .int (nI (30 * m + n + 1))), (4, .int (nI (hrC τ c m n + (un τ 8 (720 * c + (30 * m + n)))))), (0, .ref (f 0)), (1, .int (nI m)), (2, .long (lN (sumN (dayN τ c) (30 * m) n))), (5, .int (nI (30 * m)))]) 5 dX3_fillMonth_85 rfl (nI_addI (30 * m + n) 1) (by decide) rfl ?_
            refine r_goto C (t := 15) dX3_fillMonth_88 (by decide) ?_
            have jb2 : (sumN (dayN τ c) (30 * m) n) = (sumN (dayN τ c) (30 * m) (n + 1)) := by show _ = sumN (dayN τ c) (30 * m) n + dayN τ c (30 * m + n); rw [day_C hw hc (by omega), if_neg (of_decide_eq_false c41), if_neg (by rw [← cvB_N (by omega), c72]; decide)]; rfl
            refine V.eLo (lo' := [(6, .int (nI (30 * m + n + 1))), (4, .int (nI (hrC τ c m n + (un τ 8 (720 * c + (30 * m + n)))))), (0, .ref (f 0)), (1, .int (nI m)), (2, .long (lN (sumN (dayN τ c) (30 * m) (n + 1)))), (5, .int (nI (30 * m)))]) (congrArg (fun z_ => ([(6, .int (nI (30 * m + n + 1))), (4, .int (nI (hrC τ c m n + (un τ 8 (720 * c + (30 * m + n)))))), (0, .ref (f 0)), (1, .int (nI m)), (2, .long (lN z_)), (5, .int (nI (30 * m)))] : List (Nat × Value))) jb2) ?_
            have jb4 : (hrC τ c m n + (un τ 8 (720 * c + (30 * m + n)))) = (hrC τ c m (n + 1)) := by rfl
            refine V.eLo (lo' := [(6, .int (nI (30 * m + n + 1))), (4, .int (nI (hrC τ c m (n + 1)))), (0, .ref (f 0)), (1, .int (nI m)), (2, .long (lN (sumN (dayN τ c) (30 * m) (n + 1)))), (5, .int (nI (30 * m)))]) (congrArg (fun z_ => ([(6, .int (nI (30 * m + n + 1))), (4, .int (nI z_)), (0, .ref (f 0)), (1, .int (nI m)), (2, .long (lN (sumN (dayN τ c) (30 * m) (n + 1)))), (5, .int (nI (30 * m)))] : List (Nat × Value))) jb4) ?_
            refine V.sub [2, 3, 4, 1, 5, 0] (lo' := [(0, .ref (f 0)), (1, .int (nI m)), (2, .long (lN (sumN (dayN τ c) (30 * m) (n + 1)))), (4, .int (nI (hrC τ c m (n + 1)))), (5, .int (nI (30 * m))), (6, .int (nI (30 * m + n + 1)))]) rfl ?_
            exact ih15 (n + 1) (by omega) (by omega)
          · skip
            refine r_lload_n C 3 dX3_fillMonth_75 rfl rfl ?_
            refine r_aload_n C 1 dX3_fillMonth_76 rfl rfl ?_
            refine r_iload C 5 dX3_fillMonth_77 rfl ?_
            refine r_callV C hgX (ci := 5) ml_X3_77 im_X3_payOn se_X3_payOn rfl rfl (hb.k 0 6 rfl) (c_X3_payOn l hfl G M f hb τ hw c hc hf (30 * m + n) (by omega)) rfl (Nat.le_of_ble_eq_true rfl) ⟨Nat.le_of_ble_eq_true rfl, Nat.le_of_ble_eq_true rfl⟩ ⟨Nat.le_of_ble_eq_true rfl, Nat.le_of_ble_eq_true rfl⟩ dX3_fillMonth_79 rfl ?_
            rintro _ _ ⟨rfl, rfl⟩
            refine V.eSt (st' := [.int (nI (pyC τ c (30 * m + n))), .long (lN (sumN (dayN τ c) (30 * m) n))]) rfl ?_
            refine r_i2lN C (by omega) dX3_fillMonth_82 ?_
            refine r_laddN C dX3_fillMonth_83 ?_
            refine r_lstore_n C (lo' := [(2, .long (lN (sumN (dayN τ c) (30 * m) n + (pyC τ c (30 * m + n))))), (4, .int (nI (hrC τ c m n + (un τ 8 (720 * c + (30 * m + n)))))), (0, .ref (f 0)), (1, .int (nI m)), (5, .int (nI (30 * m))), (6, .int (nI (30 * m + n)))]) dX3_fillMonth_84 rfl (by decide) rfl ?_
            refine r_iinc C (v := nI (30 * m + n + 1)) (lo' := [(6, .int (nI (30 * m + n + 1))), (2, .long (lN (sumN (dayN τ c) (30 * m) n + (pyC τ c (30 * m + n))))), (4, .int (nI (hrC τ c m n + (un τ 8 (720 * c + (30 * m + n)))))), (0, .ref (f 0)), (1, .int (nI m)), (5, .int (nI (30 * m)))]) 5 dX3_fillMonth_85 rfl (nI_addI (30 * m + n) 1) (by decide) rfl ?_
            refine r_goto C (t := 15) dX3_fillMonth_88 (by decide) ?_
            have jb2 : (sumN (dayN τ c) (30 * m) n + (pyC τ c (30 * m + n))) = (sumN (dayN τ c) (30 * m) (n + 1)) := by show _ = sumN (dayN τ c) (30 * m) n + dayN τ c (30 * m + n); rw [day_C hw hc (by omega), if_neg (of_decide_eq_false c41), if_pos (by rw [← cvB_N (by omega), c72])]
            refine V.eLo (lo' := [(6, .int (nI (30 * m + n + 1))), (2, .long (lN (sumN (dayN τ c) (30 * m) (n + 1)))), (4, .int (nI (hrC τ c m n + (un τ 8 (720 * c + (30 * m + n)))))), (0, .ref (f 0)), (1, .int (nI m)), (5, .int (nI (30 * m)))]) (congrArg (fun z_ => ([(6, .int (nI (30 * m + n + 1))), (2, .long (lN z_)), (4, .int (nI (hrC τ c m n + (un τ 8 (720 * c + (30 * m + n)))))), (0, .ref (f 0)), (1, .int (nI m)), (5, .int (nI (30 * m)))] : List (Nat × Value))) jb2) ?_
            have jb4 : (hrC τ c m n + (un τ 8 (720 * c + (30 * m + n)))) = (hrC τ c m (n + 1)) := by rfl
            refine V.eLo (lo' := [(6, .int (nI (30 * m + n + 1))), (2, .long (lN (sumN (dayN τ c) (30 * m) (n + 1)))), (4, .int (nI (hrC τ c m (n + 1)))), (0, .ref (f 0)), (1, .int (nI m)), (5, .int (nI (30 * m)))]) (congrArg (fun z_ => ([(6, .int (nI (30 * m + n + 1))), (2, .long (lN (sumN (dayN τ c) (30 * m) (n + 1)))), (4, .int (nI z_)), (0, .ref (f 0)), (1, .int (nI m)), (5, .int (nI (30 * m)))] : List (Nat × Value))) jb4) ?_
            refine V.sub [3, 4, 1, 2, 5, 0] (lo' := [(0, .ref (f 0)), (1, .int (nI m)), (2, .long (lN (sumN (dayN τ c) (30 * m) (n + 1)))), (4, .int (nI (hrC τ c m (n + 1)))), (5, .int (nI (30 * m))), (6, .int (nI (30 * m + n + 1)))]) rfl ?_
            exact ih15 (n + 1) (by omega) (by omega)
        · skip
          have c41d := of_decide_eq_true c41
          refine r_lload_n C 3 dX3_fillMonth_44 rfl rfl ?_
          refine r_aload_n C 1 dX3_fillMonth_45 rfl rfl ?_
          refine r_getR C (b := (f 4)) fl_X3_20 rfl (hb.k 0 6 rfl) (hb.r 0 7 4 rfl) dX3_fillMonth_46 ?_
          refine r_iload C 5 dX3_fillMonth_49 rfl ?_
          refine r_ialoadN C (hb.k 4 20 rfl) (hb.n 4 720 rfl) (by omega) (by omega) dX3_fillMonth_51 ?_
          refine V.ei (y := nI (un τ 8 (720 * c + (30 * m + n)))) (hmi _ (by omega)) ?_
          refine r_i2lN C (by omega) dX3_fillMonth_52 ?_
          refine r_aload_n C 1 dX3_fillMonth_53 rfl rfl ?_
          refine r_iload C 5 dX3_fillMonth_54 rfl ?_
          refine r_callV C hgX (ci := 5) ml_X3_77 im_X3_payOn se_X3_payOn rfl rfl (hb.k 0 6 rfl) (c_X3_payOn l hfl G M f hb τ hw c hc hf (30 * m + n) (by omega)) rfl (Nat.le_of_ble_eq_true rfl) ⟨Nat.le_of_ble_eq_true rfl, Nat.le_of_ble_eq_true rfl⟩ ⟨Nat.le_of_ble_eq_true rfl, Nat.le_of_ble_eq_true rfl⟩ dX3_fillMonth_56 rfl ?_
          rintro _ _ ⟨rfl, rfl⟩
          refine V.eSt (st' := [.int (nI (pyC τ c (30 * m + n))), .long (lN (un τ 8 (720 * c + (30 * m + n)))), .long (lN (sumN (dayN τ c) (30 * m) n))]) rfl ?_
          refine r_i2lN C (by omega) dX3_fillMonth_59 ?_
          refine r_lmulN C dX3_fillMonth_60 ?_
          refine r_laddN C dX3_fillMonth_61 ?_
          refine r_lstore_n C (lo' := [(2, .long (lN (sumN (dayN τ c) (30 * m) n + ((un τ 8 (720 * c + (30 * m + n))) * (pyC τ c (30 * m + n)))))), (4, .int (nI (hrC τ c m n + (un τ 8 (720 * c + (30 * m + n)))))), (0, .ref (f 0)), (1, .int (nI m)), (5, .int (nI (30 * m))), (6, .int (nI (30 * m + n)))]) dX3_fillMonth_62 rfl (by decide) rfl ?_
          refine r_goto C (t := 85) dX3_fillMonth_63 (by decide) ?_
          refine r_iinc C (v := nI (30 * m + n + 1)) (lo' := [(6, .int (nI (30 * m + n + 1))), (2, .long (lN (sumN (dayN τ c) (30 * m) n + ((un τ 8 (720 * c + (30 * m + n))) * (pyC τ c (30 * m + n)))))), (4, .int (nI (hrC τ c m n + (un τ 8 (720 * c + (30 * m + n)))))), (0, .ref (f 0)), (1, .int (nI m)), (5, .int (nI (30 * m)))]) 5 dX3_fillMonth_85 rfl (nI_addI (30 * m + n) 1) (by decide) rfl ?_
          refine r_goto C (t := 15) dX3_fillMonth_88 (by decide) ?_
          have jb2 : (sumN (dayN τ c) (30 * m) n + ((un τ 8 (720 * c + (30 * m + n))) * (pyC τ c (30 * m + n)))) = (sumN (dayN τ c) (30 * m) (n + 1)) := by show _ = sumN (dayN τ c) (30 * m) n + dayN τ c (30 * m + n); rw [day_C hw hc (by omega), if_pos (of_decide_eq_true c41)]
          refine V.eLo (lo' := [(6, .int (nI (30 * m + n + 1))), (2, .long (lN (sumN (dayN τ c) (30 * m) (n + 1)))), (4, .int (nI (hrC τ c m n + (un τ 8 (720 * c + (30 * m + n)))))), (0, .ref (f 0)), (1, .int (nI m)), (5, .int (nI (30 * m)))]) (congrArg (fun z_ => ([(6, .int (nI (30 * m + n + 1))), (2, .long (lN z_)), (4, .int (nI (hrC τ c m n + (un τ 8 (720 * c + (30 * m + n)))))), (0, .ref (f 0)), (1, .int (nI m)), (5, .int (nI (30 * m)))] : List (Nat × Value))) jb2) ?_
          have jb4 : (hrC τ c m n + (un τ 8 (720 * c + (30 * m + n)))) = (hrC τ c m (n + 1)) := by rfl
          refine V.eLo (lo' := [(6, .int (nI (30 * m + n + 1))), (2, .long (lN (sumN (dayN τ c) (30 * m) (n + 1)))), (4, .int (nI (hrC τ c m (n + 1)))), (0, .ref (f 0)), (1, .int (nI m)), (5, .int (nI (30 * m)))]) (congrArg (fun z_ => ([(6, .int (nI (30 * m + n + 1))), (2, .long (lN (sumN (dayN τ c) (30 * m) (n + 1)))), (4, .int (nI z_)), (0, .ref (f 0)), (1, .int (nI m)), (5, .int (nI (30 * m)))] : List (Nat × Value))) jb4) ?_
          refine V.sub [3, 4, 1, 2, 5, 0] (lo' := [(0, .ref (f 0)), (1, .int (nI m)), (2, .long (lN (sumN (dayN τ c) (30 * m) (n + 1)))), (4, .int (nI (hrC τ c m (n + 1)))), (5, .int (nI (30 * m))), (6, .int (nI (30 * m + n + 1)))]) rfl ?_
          exact ih15 (n + 1) (by omega) (by omega)
  refine V.sub [4, 5, 3, 2, 1, 0] (lo' := [(0, .ref (f 0)), (1, .int (nI m)), (2, .long (lN 0)), (4, .int (nI 0)), (5, .int (nI (30 * m))), (6, .int (nI (30 * m)))]) rfl ?_
  exact lp15 _ 0 (Nat.zero_le _) (Nat.lt_succ_self _)

