theorem fit_f1 {τ : Mu} {D e : Nat} (he : e < un τ 26 26) (h : (wtN (un τ 26 26) D).testBit e = false) : fitB τ D e = false := by
  rw [wt_tb, decide_eq_true he, Bool.true_and] at h
  unfold fitB
  rw [h, Bool.false_and]
theorem fit_f2 {τ : Mu} {D e : Nat} (h : ¬ needN τ e &&& wtN (un τ 26 26) D = 0) : fitB τ D e = false := by
  unfold fitB
  rw [decide_eq_false (fun q => h (wt_need.mpr q)), Bool.and_false]
theorem fit_t {τ : Mu} {D e : Nat} (he : e < un τ 26 26) (h : (wtN (un τ 26 26) D).testBit e = true) (h2 : needN τ e &&& wtN (un τ 26 26) D = 0) : fitB τ D e = true := by
  rw [wt_tb, decide_eq_true he, Bool.true_and] at h
  unfold fitB
  rw [h, decide_eq_true (wt_need.mp h2)]; rfl
theorem arrS_lt {τ : Mu} (hn : un τ 26 26 ≤ 6) (D : Nat) : arrS τ D < 6 := by
  unfold arrS
  cases h : fstN (fitB τ D) (un τ 26 26) with
  | none => decide
  | some e =>
    have : ∀ n, fstN (fitB τ D) n = some e → e < n := by
      intro n
      induction n with
      | zero => intro h; cases h
      | succ n ih =>
        intro h
        have h2 : (match fstN (fitB τ D) n with | some j => some j | none => if fitB τ D n = true then some n else none) = some e := h
        cases hf : fstN (fitB τ D) n with
        | some j => rw [hf] at h2; have := ih (hf.trans h2); omega
        | none =>
          rw [hf] at h2
          by_cases z : fitB τ D n = true
          · rw [if_pos z] at h2; cases h2; omega
          · rw [if_neg z] at h2; cases h2
    have := this _ h
    show e < 6
    omega
theorem arrD_lt {τ : Mu} (hn : un τ 26 26 ≤ 6) : ∀ k, arrD τ k < 2 ^ 6
  | 0 => show 0 < 2 ^ 6 by decide
  | k + 1 => Nat.or_lt_two_pow (arrD_lt hn k) (Nat.pow_lt_pow_right (by decide) (arrS_lt hn _))
set_option maxHeartbeats 4000000 in
set_option maxRecDepth 100000 in
theorem c_X4_lowestReady (l : Launch) (hfl : l.flags = flags0) (G : gW) (M : Mem) (f : Nat → Nat) (hb : Blk tbEl (mK M) (mN M) (mR M) f) (τ : Mu) (hne : un τ 26 26 ≤ 6) (he0 : mI M (f 0) 0 = nI (un τ 26 26)) (hnd : ∀ e, e < 6 → mI M (f 18) e = nI (needN τ e)) (hlt : ∀ e, e < 6 → needN τ e < 2 ^ 6) (D : Nat) (hD : D < 2 ^ 6) : CT l yX4_lowestReady cX4_lowestReady 4 (some .int) 1 0 0 21 G M [.ref (f 0), .int (nI D)] (fun v M' => v = some (.int (nI (arrS τ D))) ∧ M = M') := by
  refine CT.of hfl rfl (Nat.le_of_ble_eq_true rfl) ?_
  intro pp ee ss mm ar bw mt cd C hgX hr hini
  refine V.eLo (lo' := [(0, .ref (f 0)), (1, .int (nI D))]) rfl ?_
  refine r_iconst C (v := nI 1) dX4_lowestReady_0 (by decide) ?_
  refine r_aload_n C 0 dX4_lowestReady_1 rfl rfl ?_
  refine r_getI C fl_X4_43 rfl (hb.k 0 7 rfl) dX4_lowestReady_2 ?_
  refine V.ei (y := nI (un τ 26 26)) (he0) ?_
  refine r_ishl C dX4_lowestReady_5 ?_
  refine V.ei (y := nI (2 ^ (un τ 26 26))) (nI_shl1 (by omega)) ?_
  refine r_iconst C (v := nI 1) dX4_lowestReady_6 (by decide) ?_
  refine r_isub C dX4_lowestReady_7 ?_
  refine r_iload_n C 1 dX4_lowestReady_8 rfl rfl ?_
  refine r_iconst C (v := (-1)) dX4_lowestReady_9 (by decide) ?_
  refine r_ixor C dX4_lowestReady_10 ?_
  refine r_iand C dX4_lowestReady_11 ?_
  refine V.ei (y := nI (wtN (un τ 26 26) D)) (wt_I hne (by omega)) ?_
  refine r_istore_n C (lo' := [(2, .int (nI (wtN (un τ 26 26) D))), (0, .ref (f 0)), (1, .int (nI D))]) dX4_lowestReady_12 rfl (by decide) rfl ?_
  refine r_iconst C (v := nI 0) dX4_lowestReady_13 (by decide) ?_
  refine r_istore_n C (lo' := [(3, .int (nI 0)), (2, .int (nI (wtN (un τ 26 26) D))), (0, .ref (f 0)), (1, .int (nI D))]) dX4_lowestReady_14 rfl (by decide) rfl ?_
  have lp15 : ∀ (k15 : Nat) (x : Nat) (hx : x ≤ un τ 26 26) (hno : ∀ j, j < x → fitB τ D j = false), un τ 26 26 + 1 - x < k15 → V pp l ee ({ frames := 1, cells := 0, slots := 0, locals := 21 } : Room) ss mm ar bw mt cd G (MQ bw (Ke G (fun v M' => v = some (.int (nI (arrS τ D))) ∧ M = M')) ar ss 0 0 (gA G)) 4 M 0 0 15 [(0, .ref (f 0)), (1, .int (nI D)), (2, .int (nI (wtN (un τ 26 26) D))), (3, .int (nI x))] [] := by
    intro k15
    induction k15 with
    | zero => intro x hx hno hz15; exact absurd hz15 (Nat.not_lt_zero _)
    | succ k15 ih15 =>
      intro x hx hno hz15
      have hwl := wt_lt (D := D) hne
      refine r_iload_n C 3 dX4_lowestReady_15 rfl rfl ?_
      refine r_aload_n C 0 dX4_lowestReady_16 rfl rfl ?_
      refine r_getI C fl_X4_43 rfl (hb.k 0 7 rfl) dX4_lowestReady_17 ?_
      refine V.ei (y := nI (un τ 26 26)) (he0) ?_
      refine r_icmp_geN C (t := 50) (by omega) (by omega) dX4_lowestReady_20 (by decide) (fun c20 => ?_) (fun c20 => ?_)
      · skip
        have ex : x = un τ 26 26 := by omega
        subst ex
        refine r_iconst C (v := nI 0) dX4_lowestReady_50 (by decide) ?_
        exact r_iret C hr (⟨by unfold arrS; rw [fsZ hno], rfl⟩) (by first | exact Nat.zero_le _ | decide) (by first | exact Nat.zero_le _ | decide) dX4_lowestReady_51
      · skip
        have hnl := hlt x (by omega)
        refine r_iload_n C 3 dX4_lowestReady_23 rfl rfl ?_
        refine r_iload_n C 2 dX4_lowestReady_24 rfl rfl ?_
        refine r_callS C hgX ml_X4_46 st_X4_isIn (c_X4_isIn l hfl G M x (wtN (un τ 26 26) D) (by omega) (by omega)) rfl (Nat.le_of_ble_eq_true rfl) ⟨Nat.le_of_ble_eq_true rfl, Nat.le_of_ble_eq_true rfl⟩ ⟨Nat.le_of_ble_eq_true rfl, Nat.le_of_ble_eq_true rfl⟩ dX4_lowestReady_25 rfl ?_
        rintro _ _ ⟨rfl, rfl⟩
        refine V.eSt (st' := [.int (bI (Nat.testBit (wtN (un τ 26 26) D) x))]) rfl ?_
        refine r_if_eqB C (t := 44) dX4_lowestReady_28 (by decide) (fun c28 => ?_) (fun c28 => ?_)
        · skip
          refine r_iinc C (v := nI (x + 1)) (lo' := [(3, .int (nI (x + 1))), (0, .ref (f 0)), (1, .int (nI D)), (2, .int (nI (wtN (un τ 26 26) D)))]) 3 dX4_lowestReady_44 rfl (nI_addI x 1) (by decide) rfl ?_
          refine r_goto C (t := 15) dX4_lowestReady_47 (by decide) ?_
          refine V.sub [1, 2, 3, 0] (lo' := [(0, .ref (f 0)), (1, .int (nI D)), (2, .int (nI (wtN (un τ 26 26) D))), (3, .int (nI (x + 1)))]) rfl ?_
          exact ih15 (x + 1) (by omega) (fun j hj => by by_cases e : j = x; (subst e; exact fit_f1 (by omega) c28); exact hno j (by omega)) (by omega)
        · skip
          refine r_aload_n C 0 dX4_lowestReady_31 rfl rfl ?_
          refine r_getR C (b := (f 18)) fl_X4_23 rfl (hb.k 0 7 rfl) (hb.r 0 5 18 rfl) dX4_lowestReady_32 ?_
          refine r_iload_n C 3 dX4_lowestReady_35 rfl rfl ?_
          refine r_ialoadN C (hb.k 18 20 rfl) (hb.n 18 7 rfl) (by omega) (by omega) dX4_lowestReady_36 ?_
          refine V.ei (y := nI (needN τ x)) (hnd x (by omega)) ?_
          refine r_iload_n C 2 dX4_lowestReady_37 rfl rfl ?_
          refine r_iand C dX4_lowestReady_38 ?_
          refine V.ei (y := nI ((needN τ x) &&& (wtN (un τ 26 26) D))) (nI_and (by omega) (by omega)) ?_
          refine r_if_neN C (t := 44) (by exact Nat.lt_of_le_of_lt Nat.and_le_left (by omega)) dX4_lowestReady_39 (by decide) (fun c39 => ?_) (fun c39 => ?_)
          · skip
            refine r_iinc C (v := nI (x + 1)) (lo' := [(3, .int (nI (x + 1))), (0, .ref (f 0)), (1, .int (nI D)), (2, .int (nI (wtN (un τ 26 26) D)))]) 3 dX4_lowestReady_44 rfl (nI_addI x 1) (by decide) rfl ?_
            refine r_goto C (t := 15) dX4_lowestReady_47 (by decide) ?_
            refine V.sub [1, 2, 3, 0] (lo' := [(0, .ref (f 0)), (1, .int (nI D)), (2, .int (nI (wtN (un τ 26 26) D))), (3, .int (nI (x + 1)))]) rfl ?_
            exact ih15 (x + 1) (by omega) (fun j hj => by by_cases e : j = x; (subst e; exact fit_f2 (fun q => c39 q)); exact hno j (by omega)) (by omega)
          · skip
            refine r_iload_n C 3 dX4_lowestReady_42 rfl rfl ?_
            exact r_iret C hr (⟨by unfold arrS; rw [fsS hno (fit_t (by omega) c28 (by omega)) (by omega)], rfl⟩) (by first | exact Nat.zero_le _ | decide) (by first | exact Nat.zero_le _ | decide) dX4_lowestReady_43
  refine V.sub [2, 3, 1, 0] (lo' := [(0, .ref (f 0)), (1, .int (nI D)), (2, .int (nI (wtN (un τ 26 26) D))), (3, .int (nI 0))]) rfl ?_
  exact lp15 _ 0 (Nat.zero_le _) (fun j hj => absurd hj (Nat.not_lt_zero _)) (Nat.lt_succ_self _)
set_option maxHeartbeats 4000000 in
set_option maxRecDepth 100000 in
theorem c_X4_arrange (l : Launch) (hfl : l.flags = flags0) (G : gW) (M : Mem) (f : Nat → Nat) (hb : Blk tbEl (mK M) (mN M) (mR M) f) (τ : Mu) (hne : un τ 26 26 ≤ 6) (he0 : mI M (f 0) 0 = nI (un τ 26 26)) (hnd : ∀ e, e < 6 → mI M (f 18) e = nI (needN τ e)) (hlt : ∀ e, e < 6 → needN τ e < 2 ^ 6) : CT l yX4_arrange cX4_arrange 3 none 2 0 0 44 G M [.ref (f 0)] (fun v M' => v = none ∧ frm (fun a => a = f 20) M M' ∧ ∀ k, k < un τ 26 26 → mI M' (f 20) k = nI (arrS τ (arrD τ k))) := by
  refine CT.of hfl rfl (Nat.le_of_ble_eq_true rfl) ?_
  intro pp ee ss mm ar bw mt cd C hgX hr hini
  have hb0 := hb
  have heO := he0
  have hnO := hnd
  refine V.eLo (lo' := [(0, .ref (f 0))]) rfl ?_
  refine r_iconst C (v := nI 0) dX4_arrange_0 (by decide) ?_
  refine r_istore_n C (lo' := [(1, .int (nI 0)), (0, .ref (f 0))]) dX4_arrange_1 rfl (by decide) rfl ?_
  refine r_iconst C (v := nI 0) dX4_arrange_2 (by decide) ?_
  refine r_istore_n C (lo' := [(2, .int (nI 0)), (1, .int (nI 0)), (0, .ref (f 0))]) dX4_arrange_3 rfl (by decide) rfl ?_
  have lp4 : ∀ (k4 : Nat) (M1 : Mem) (k : Nat) (hk : k ≤ un τ 26 26) (hfm : frm (fun a => a = f 20) M M1) (hs : ∀ j, j < k → mI M1 (f 20) j = nI (arrS τ (arrD τ j))), un τ 26 26 + 1 - k < k4 → V pp l ee ({ frames := 2, cells := 0, slots := 0, locals := 44 } : Room) ss mm ar bw mt cd G (MQ bw (Ke G (fun v M' => v = none ∧ frm (fun a => a = f 20) M M' ∧ ∀ k, k < un τ 26 26 → mI M' (f 20) k = nI (arrS τ (arrD τ k)))) ar ss 0 0 (gA G)) 3 M1 0 0 4 [(0, .ref (f 0)), (1, .int (nI (arrD τ k))), (2, .int (nI k))] [] := by
    intro k4
    induction k4 with
    | zero => intro M1 k hk hfm hs hz4; exact absurd hz4 (Nat.not_lt_zero _)
    | succ k4 ih4 =>
      intro M1 k hk hfm hs hz4
      have he0 : mI M1 (f 0) 0 = nI (un τ 26 26) := (congrFun (hfm.i (hb0.ne 0 20 rfl)) 0).trans heO
      have hnd : ∀ e, e < 6 → mI M1 (f 18) e = nI (needN τ e) := fun e he => (congrFun (hfm.i (hb0.ne 18 20 rfl)) e).trans (hnO e he)
      have hb := hfm.blk hb0
      have hDl := arrD_lt hne k
      have hSl := arrS_lt hne (arrD τ k)
      refine r_iload_n C 2 dX4_arrange_4 rfl rfl ?_
      refine r_aload_n C 0 dX4_arrange_5 rfl rfl ?_
      refine r_getI C fl_X4_43 rfl (hb.k 0 7 rfl) dX4_arrange_6 ?_
      refine V.ei (y := nI (un τ 26 26)) (he0) ?_
      refine r_icmp_geN C (t := 40) (by omega) (by omega) dX4_arrange_9 (by decide) (fun c9 => ?_) (fun c9 => ?_)
      · skip
        have ek : k = un τ 26 26 := by omega
        subst ek
        exact r_vret C hr (⟨rfl, hfm, hs⟩) (by first | exact Nat.zero_le _ | decide) (by first | exact Nat.zero_le _ | decide) dX4_arrange_40
      · skip
        refine r_aload_n C 0 dX4_arrange_12 rfl rfl ?_
        refine r_getR C (b := (f 20)) fl_X4_29 rfl (hb.k 0 7 rfl) (hb.r 0 7 20 rfl) dX4_arrange_13 ?_
        refine r_iload_n C 2 dX4_arrange_16 rfl rfl ?_
        refine r_aload_n C 0 dX4_arrange_17 rfl rfl ?_
        refine r_iload_n C 1 dX4_arrange_18 rfl rfl ?_
        refine r_callV C hgX (ci := 6) ml_X4_65 im_X4_lowestReady se_X4_lowestReady rfl rfl (hb.k 0 7 rfl) (c_X4_lowestReady l hfl G M1 f hb τ hne he0 hnd hlt (arrD τ k) (by omega)) rfl (Nat.le_of_ble_eq_true rfl) ⟨Nat.le_of_ble_eq_true rfl, Nat.le_of_ble_eq_true rfl⟩ ⟨Nat.le_of_ble_eq_true rfl, Nat.le_of_ble_eq_true rfl⟩ dX4_arrange_19 rfl ?_
        rintro _ _ ⟨rfl, rfl⟩
        refine V.eSt (st' := [.int (nI (arrS τ (arrD τ k))), .int (nI k), .ref (f 20)]) rfl ?_
        refine r_iastoreN C (hb.k 20 20 rfl) (hb.n 20 6 rfl) (by omega) (by omega) dX4_arrange_22 ?_
        refine r_iload_n C 1 dX4_arrange_23 rfl rfl ?_
        refine r_iconst C (v := nI 1) dX4_arrange_24 (by decide) ?_
        refine r_aload_n C 0 dX4_arrange_25 rfl rfl ?_
        refine r_getR C (b := (f 20)) fl_X4_29 rfl (hb.k 0 7 rfl) (hb.r 0 7 20 rfl) dX4_arrange_26 ?_
        refine r_iload_n C 2 dX4_arrange_29 rfl rfl ?_
        refine r_ialoadN C (hb.k 20 20 rfl) (hb.n 20 6 rfl) (by omega) (by omega) dX4_arrange_30 ?_
        refine V.ei (y := nI (arrS τ (arrD τ k))) (wI_i) ?_
        refine r_ishl C dX4_arrange_31 ?_
        refine V.ei (y := nI (2 ^ (arrS τ (arrD τ k)))) (nI_shl1 (by omega)) ?_
        refine r_ior C dX4_arrange_32 ?_
        refine V.ei (y := nI ((arrD τ k) ||| (2 ^ (arrS τ (arrD τ k))))) (nI_or (by omega) (by have := (sh1 (n := arrS τ (arrD τ k)) (by omega)).1; omega)) ?_
        refine r_istore_n C (lo' := [(1, .int (nI ((arrD τ k) ||| (2 ^ (arrS τ (arrD τ k)))))), (0, .ref (f 0)), (2, .int (nI k))]) dX4_arrange_33 rfl (by decide) rfl ?_
        refine r_iinc C (v := nI (k + 1)) (lo' := [(2, .int (nI (k + 1))), (1, .int (nI ((arrD τ k) ||| (2 ^ (arrS τ (arrD τ k)))))), (0, .ref (f 0))]) 2 dX4_arrange_34 rfl (nI_addI k 1) (by decide) rfl ?_
        refine r_goto C (t := 4) dX4_arrange_37 (by decide) ?_
        have jb1 : ((arrD τ k) ||| (2 ^ (arrS τ (arrD τ k)))) = (arrD τ (k + 1)) := by rfl
        refine V.eLo (lo' := [(2, .int (nI (k + 1))), (1, .int (nI (arrD τ (k + 1)))), (0, .ref (f 0))]) (congrArg (fun z_ => ([(2, .int (nI (k + 1))), (1, .int (nI z_)), (0, .ref (f 0))] : List (Nat × Value))) jb1) ?_
        refine V.sub [2, 1, 0] (lo' := [(0, .ref (f 0)), (1, .int (nI (arrD τ (k + 1)))), (2, .int (nI (k + 1)))]) rfl ?_
        exact ih4 (wI M1 (f 20) k (nI (arrS τ (arrD τ k)))) (k + 1) (by omega) (hfm.wi _ _ rfl) (fun j hj => by by_cases e : j = k; (subst e; exact wI_i); exact (wI_k e).trans (hs j (by omega))) (by omega)
  refine V.sub [2, 1, 0] (lo' := [(0, .ref (f 0)), (1, .int (nI 0)), (2, .int (nI 0))]) rfl ?_
  exact lp4 _ M 0 (Nat.zero_le _) (frm.rf _ _) (fun j hj => absurd hj (Nat.not_lt_zero _)) (Nat.lt_succ_self _)

