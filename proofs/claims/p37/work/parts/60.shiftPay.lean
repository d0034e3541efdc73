theorem ash_a {τ : Mu} {c sn d m n : Nat} {M : Mem} {f : Nat → Nat} (hb : Blk tbCo (mK M) (mN M) (mR M) f) (hmi : ∀ d, d < 720 → mI M (f 4) d = nI (un τ 8 (720 * c + d))) (hd : ¬ d + 1 < 720) : (none : Option Value) = none ∧ frm (fun a => a = f 0 ∨ a = f 4 ∨ a = f 5 ∨ a = f 6) M (wI (wI (wI (wI (wI M (f 5) sn (nI (1440 * d + m))) (f 6) sn (nI (1440 * d + m + n))) (f 0) 10 (nI (sn + 1))) (f 4) d (nI (un τ 8 (720 * c + d) + shH n m))) (f 0) 11 (nI 1)) ∧ (∀ k, k ≠ 10 → k ≠ 11 → mI (wI (wI (wI (wI (wI M (f 5) sn (nI (1440 * d + m))) (f 6) sn (nI (1440 * d + m + n))) (f 0) 10 (nI (sn + 1))) (f 4) d (nI (un τ 8 (720 * c + d) + shH n m))) (f 0) 11 (nI 1)) (f 0) k = mI M (f 0) k) ∧ mI (wI (wI (wI (wI (wI M (f 5) sn (nI (1440 * d + m))) (f 6) sn (nI (1440 * d + m + n))) (f 0) 10 (nI (sn + 1))) (f 4) d (nI (un τ 8 (720 * c + d) + shH n m))) (f 0) 11 (nI 1)) (f 0) 10 = nI (sn + 1) ∧ mI (wI (wI (wI (wI (wI M (f 5) sn (nI (1440 * d + m))) (f 6) sn (nI (1440 * d + m + n))) (f 0) 10 (nI (sn + 1))) (f 4) d (nI (un τ 8 (720 * c + d) + shH n m))) (f 0) 11 (nI 1)) (f 0) 11 = nI 1 ∧ (∀ k, mI (wI (wI (wI (wI (wI M (f 5) sn (nI (1440 * d + m))) (f 6) sn (nI (1440 * d + m + n))) (f 0) 10 (nI (sn + 1))) (f 4) d (nI (un τ 8 (720 * c + d) + shH n m))) (f 0) 11 (nI 1)) (f 5) k = if k = sn then nI (1440 * d + m) else mI M (f 5) k) ∧ (∀ k, mI (wI (wI (wI (wI (wI M (f 5) sn (nI (1440 * d + m))) (f 6) sn (nI (1440 * d + m + n))) (f 0) 10 (nI (sn + 1))) (f 4) d (nI (un τ 8 (720 * c + d) + shH n m))) (f 0) 11 (nI 1)) (f 6) k = if k = sn then nI (1440 * d + m + n) else mI M (f 6) k) ∧ ∀ x, x < 720 → mI (wI (wI (wI (wI (wI M (f 5) sn (nI (1440 * d + m))) (f 6) sn (nI (1440 * d + m + n))) (f 0) 10 (nI (sn + 1))) (f 4) d (nI (un τ 8 (720 * c + d) + shH n m))) (f 0) 11 (nI 1)) (f 4) x = nI (if x = d then un τ 8 (720 * c + d) + shH n m else if x = d + 1 then un τ 8 (720 * c + (d + 1)) + (shN n - shH n m) else un τ 8 (720 * c + x)) := by
  refine ⟨rfl, ((frm.rf _ _).wi _ _ (.inr (.inr (.inl rfl))) |>.wi _ _ (.inr (.inr (.inr rfl))) |>.wi _ _ (.inl rfl) |>.wi _ _ (.inr (.inl rfl)) |>.wi _ _ (.inl rfl)), fun k h1 h2 => ?_, ?_, wI_i, fun k => ?_, fun k => ?_, fun x hx => ?_⟩
  · rw [wI_k h2, wI_a (hb.ne 0 4 rfl), wI_k h1, wI_a (hb.ne 0 6 rfl), wI_a (hb.ne 0 5 rfl)]
  · rw [wI_k (by decide), wI_a (hb.ne 0 4 rfl), wI_i]
  · rw [wI_a (hb.ne 5 0 rfl), wI_a (hb.ne 5 4 rfl), wI_a (hb.ne 5 0 rfl), wI_a (hb.ne 5 6 rfl)]; by_cases e : k = sn; (subst e; rw [wI_i, if_pos rfl]); (rw [wI_k e, if_neg e])
  · rw [wI_a (hb.ne 6 0 rfl), wI_a (hb.ne 6 4 rfl), wI_a (hb.ne 6 0 rfl)]; by_cases e : k = sn; (subst e; rw [wI_i, if_pos rfl]); (rw [wI_k e, if_neg e, wI_a (hb.ne 6 5 rfl)])
  · rw [wI_a (hb.ne 4 0 rfl)]
    by_cases e : x = d
    · subst e; rw [wI_i, if_pos rfl]
    · rw [wI_k e, if_neg e, if_neg (by omega), wI_a (hb.ne 4 0 rfl), wI_a (hb.ne 4 6 rfl), wI_a (hb.ne 4 5 rfl)]; exact hmi x hx
theorem ash_b {τ : Mu} {c sn d m n : Nat} {M : Mem} {f : Nat → Nat} (hb : Blk tbCo (mK M) (mN M) (mR M) f) (hmi : ∀ d, d < 720 → mI M (f 4) d = nI (un τ 8 (720 * c + d))) : (none : Option Value) = none ∧ frm (fun a => a = f 0 ∨ a = f 4 ∨ a = f 5 ∨ a = f 6) M (wI (wI (wI (wI (wI (wI M (f 5) sn (nI (1440 * d + m))) (f 6) sn (nI (1440 * d + m + n))) (f 0) 10 (nI (sn + 1))) (f 4) d (nI (un τ 8 (720 * c + d) + shH n m))) (f 4) (d + 1) (nI (un τ 8 (720 * c + (d + 1)) + (shN n - shH n m)))) (f 0) 11 (nI 1)) ∧ (∀ k, k ≠ 10 → k ≠ 11 → mI (wI (wI (wI (wI (wI (wI M (f 5) sn (nI (1440 * d + m))) (f 6) sn (nI (1440 * d + m + n))) (f 0) 10 (nI (sn + 1))) (f 4) d (nI (un τ 8 (720 * c + d) + shH n m))) (f 4) (d + 1) (nI (un τ 8 (720 * c + (d + 1)) + (shN n - shH n m)))) (f 0) 11 (nI 1)) (f 0) k = mI M (f 0) k) ∧ mI (wI (wI (wI (wI (wI (wI M (f 5) sn (nI (1440 * d + m))) (f 6) sn (nI (1440 * d + m + n))) (f 0) 10 (nI (sn + 1))) (f 4) d (nI (un τ 8 (720 * c + d) + shH n m))) (f 4) (d + 1) (nI (un τ 8 (720 * c + (d + 1)) + (shN n - shH n m)))) (f 0) 11 (nI 1)) (f 0) 10 = nI (sn + 1) ∧ mI (wI (wI (wI (wI (wI (wI M (f 5) sn (nI (1440 * d + m))) (f 6) sn (nI (1440 * d + m + n))) (f 0) 10 (nI (sn + 1))) (f 4) d (nI (un τ 8 (720 * c + d) + shH n m))) (f 4) (d + 1) (nI (un τ 8 (720 * c + (d + 1)) + (shN n - shH n m)))) (f 0) 11 (nI 1)) (f 0) 11 = nI 1 ∧ (∀ k, mI (wI (wI (wI (wI (wI (wI M (f 5) sn (nI (1440 * d + m))) (f 6) sn (nI (1440 * d + m + n))) (f 0) 10 (nI (sn + 1))) (f 4) d (nI (un τ 8 (720 * c + d) + shH n m))) (f 4) (d + 1) (nI (un τ 8 (720 * c + (d + 1)) + (shN n - shH n m)))) (f 0) 11 (nI 1)) (f 5) k = if k = sn then nI (1440 * d + m) else mI M (f 5) k) ∧ (∀ k, mI (wI (wI (wI (wI (wI (wI M (f 5) sn (nI (1440 * d + m))) (f 6) sn (nI (1440 * d + m + n))) (f 0) 10 (nI (sn + 1))) (f 4) d (nI (un τ 8 (720 * c + d) + shH n m))) (f 4) (d + 1) (nI (un τ 8 (720 * c + (d + 1)) + (shN n - shH n m)))) (f 0) 11 (nI 1)) (f 6) k = if k = sn then nI (1440 * d + m + n) else mI M (f 6) k) ∧ ∀ x, x < 720 → mI (wI (wI (wI (wI (wI (wI M (f 5) sn (nI (1440 * d + m))) (f 6) sn (nI (1440 * d + m + n))) (f 0) 10 (nI (sn + 1))) (f 4) d (nI (un τ 8 (720 * c + d) + shH n m))) (f 4) (d + 1) (nI (un τ 8 (720 * c + (d + 1)) + (shN n - shH n m)))) (f 0) 11 (nI 1)) (f 4) x = nI (if x = d then un τ 8 (720 * c + d) + shH n m else if x = d + 1 then un τ 8 (720 * c + (d + 1)) + (shN n - shH n m) else un τ 8 (720 * c + x)) := by
  refine ⟨rfl, ((frm.rf _ _).wi _ _ (.inr (.inr (.inl rfl))) |>.wi _ _ (.inr (.inr (.inr rfl))) |>.wi _ _ (.inl rfl) |>.wi _ _ (.inr (.inl rfl)) |>.wi _ _ (.inr (.inl rfl)) |>.wi _ _ (.inl rfl)), fun k h1 h2 => ?_, ?_, wI_i, fun k => ?_, fun k => ?_, fun x hx => ?_⟩
  · rw [wI_k h2, wI_a (hb.ne 0 4 rfl), wI_a (hb.ne 0 4 rfl), wI_k h1, wI_a (hb.ne 0 6 rfl), wI_a (hb.ne 0 5 rfl)]
  · rw [wI_k (by decide), wI_a (hb.ne 0 4 rfl), wI_a (hb.ne 0 4 rfl), wI_i]
  · rw [wI_a (hb.ne 5 0 rfl), wI_a (hb.ne 5 4 rfl), wI_a (hb.ne 5 4 rfl), wI_a (hb.ne 5 0 rfl), wI_a (hb.ne 5 6 rfl)]; by_cases e : k = sn; (subst e; rw [wI_i, if_pos rfl]); (rw [wI_k e, if_neg e])
  · rw [wI_a (hb.ne 6 0 rfl), wI_a (hb.ne 6 4 rfl), wI_a (hb.ne 6 4 rfl), wI_a (hb.ne 6 0 rfl)]; by_cases e : k = sn; (subst e; rw [wI_i, if_pos rfl]); (rw [wI_k e, if_neg e, wI_a (hb.ne 6 5 rfl)])
  · rw [wI_a (hb.ne 4 0 rfl)]
    by_cases e : x = d
    · subst e; rw [wI_k (by omega), wI_i, if_pos rfl]
    · by_cases e2 : x = d + 1
      · subst e2; rw [wI_i, if_neg e, if_pos rfl]
      · rw [wI_k e2, wI_k e, if_neg e, if_neg e2, wI_a (hb.ne 4 0 rfl), wI_a (hb.ne 4 6 rfl), wI_a (hb.ne 4 5 rfl)]; exact hmi x hx
set_option maxHeartbeats 4000000 in
set_option maxRecDepth 100000 in
theorem c_X3_addShift (l : Launch) (hfl : l.flags = flags0) (G : gW) (M : Mem) (f : Nat → Nat) (hb : Blk tbCo (mK M) (mN M) (mR M) f) (τ : Mu) (c : Nat) (hmi : ∀ d, d < 720 → mI M (f 4) d = nI (un τ 8 (720 * c + d))) (sn : Nat) (hsn : sn < 40) (hs : mI M (f 0) 10 = nI sn) (d m n : Nat) (hd : d < 720) (hm : m < 1440) (hn : n ≤ 1440) : CT l yX3_addShift cX3_addShift 6 none 1 0 0 30 G M [.ref (f 0), .int (nI d), .int (nI m), .int (nI n)] (fun v M' => v = none ∧ frm (fun a => a = f 0 ∨ a = f 4 ∨ a = f 5 ∨ a = f 6) M M' ∧ (∀ k, k ≠ 10 → k ≠ 11 → mI M' (f 0) k = mI M (f 0) k) ∧ mI M' (f 0) 10 = nI (sn + 1) ∧ mI M' (f 0) 11 = nI 1 ∧ (∀ k, mI M' (f 5) k = if k = sn then nI (1440 * d + m) else mI M (f 5) k) ∧ (∀ k, mI M' (f 6) k = if k = sn then nI (1440 * d + m + n) else mI M (f 6) k) ∧ ∀ x, x < 720 → mI M' (f 4) x = nI (if x = d then un τ 8 (720 * c + d) + shH n m else if x = d + 1 then un τ 8 (720 * c + (d + 1)) + (shN n - shH n m) else un τ 8 (720 * c + x))) := by
  refine CT.of hfl rfl (Nat.le_of_ble_eq_true rfl) ?_
  intro pp ee ss mm ar bw mt cd C hgX hr hini
  refine V.eLo (lo' := [(0, .ref (f 0)), (1, .int (nI d)), (2, .int (nI m)), (3, .int (nI n))]) rfl ?_
  refine r_aload_n C 0 dX3_addShift_0 rfl rfl ?_
  refine r_getI C fl_X3_84 rfl (hb.k 0 6 rfl) dX3_addShift_1 ?_
  refine V.ei (y := nI sn) (hs) ?_
  refine r_bipush C (v := nI 40) dX3_addShift_4 (by decide) ?_
  refine r_icmp_geN C (t := 20) (by omega) (by omega) dX3_addShift_6 (by decide) (fun c6 => ?_) (fun c6 => ?_)
  · exact absurd hsn (by omega)
  · skip
    refine r_iload_n C 1 dX3_addShift_9 rfl rfl ?_
    refine r_if_ltN C (t := 20) (by omega) dX3_addShift_10 (by decide) ?_
    refine r_iload_n C 1 dX3_addShift_13 rfl rfl ?_
    refine r_sipush C (v := nI 720) dX3_addShift_14 (by decide) ?_
    refine r_icmp_ltN C (t := 21) (by omega) (by omega) dX3_addShift_17 (by decide) (fun c17 => ?_) (fun c17 => ?_)
    · skip
      refine r_aload_n C 0 dX3_addShift_21 rfl rfl ?_
      refine r_getR C (b := (f 5)) fl_X3_24 rfl (hb.k 0 6 rfl) (hb.r 0 8 5 rfl) dX3_addShift_22 ?_
      refine r_aload_n C 0 dX3_addShift_25 rfl rfl ?_
      refine r_getI C fl_X3_84 rfl (hb.k 0 6 rfl) dX3_addShift_26 ?_
      refine V.ei (y := nI sn) (hs) ?_
      refine r_iload_n C 1 dX3_addShift_29 rfl rfl ?_
      refine r_sipush C (v := nI 1440) dX3_addShift_30 (by decide) ?_
      refine r_imulN C dX3_addShift_33 ?_
      refine V.ei (y := nI (1440 * d)) (congrArg nI (Nat.mul_comm _ _)) ?_
      refine r_iload_n C 2 dX3_addShift_34 rfl rfl ?_
      refine r_iaddN C dX3_addShift_35 ?_
      
      refine r_iastoreN C (hb.k 5 20 rfl) (hb.n 5 40 rfl) (by omega) (by omega) dX3_addShift_36 ?_
      refine r_aload_n C 0 dX3_addShift_37 rfl rfl ?_
      refine r_getR C (b := (f 6)) fl_X3_27 rfl (hb.k 0 6 rfl) (hb.r 0 9 6 rfl) dX3_addShift_38 ?_
      refine r_aload_n C 0 dX3_addShift_41 rfl rfl ?_
      refine r_getI C fl_X3_84 rfl (hb.k 0 6 rfl) dX3_addShift_42 ?_
      refine V.ei (y := nI sn) ((congrFun (wI_a (hb.ne 0 5 rfl)) 10).trans hs) ?_
      refine r_aload_n C 0 dX3_addShift_45 rfl rfl ?_
      refine r_getR C (b := (f 5)) fl_X3_24 rfl (hb.k 0 6 rfl) (hb.r 0 8 5 rfl) dX3_addShift_46 ?_
      refine r_aload_n C 0 dX3_addShift_49 rfl rfl ?_
      refine r_getI C fl_X3_84 rfl (hb.k 0 6 rfl) dX3_addShift_50 ?_
      refine V.ei (y := nI sn) ((congrFun (wI_a (hb.ne 0 5 rfl)) 10).trans hs) ?_
      refine r_ialoadN C (hb.k 5 20 rfl) (hb.n 5 40 rfl) (by omega) (by omega) dX3_addShift_53 ?_
      refine V.ei (y := nI (1440 * d + m)) (wI_i) ?_
      refine r_iload_n C 3 dX3_addShift_54 rfl rfl ?_
      refine r_iaddN C dX3_addShift_55 ?_
      refine r_iastoreN C (hb.k 6 20 rfl) (hb.n 6 40 rfl) (by omega) (by omega) dX3_addShift_56 ?_
      refine r_aload_n C 0 dX3_addShift_57 rfl rfl ?_
      refine r_dup C dX3_addShift_58 rfl ?_
      refine r_getI C fl_X3_84 rfl (hb.k 0 6 rfl) dX3_addShift_59 ?_
      refine V.ei (y := nI sn) ((congrFun (wI_a (hb.ne 0 6 rfl)) 10).trans ((congrFun (wI_a (hb.ne 0 5 rfl)) 10).trans hs)) ?_
      refine r_iconst C (v := nI 1) dX3_addShift_62 (by decide) ?_
      refine r_iaddN C dX3_addShift_63 ?_
      refine r_putI C fl_X3_84 (hb.k 0 6 rfl) dX3_addShift_64 ?_
      have jn82 : V pp l ee ({ frames := 1, cells := 0, slots := 0, locals := 30 } : Room) ss mm ar bw mt cd G (MQ bw (Ke G (fun v M' => v = none ∧ frm (fun a => a = f 0 ∨ a = f 4 ∨ a = f 5 ∨ a = f 6) M M' ∧ (∀ k, k ≠ 10 → k ≠ 11 → mI M' (f 0) k = mI M (f 0) k) ∧ mI M' (f 0) 10 = nI (sn + 1) ∧ mI M' (f 0) 11 = nI 1 ∧ (∀ k, mI M' (f 5) k = if k = sn then nI (1440 * d + m) else mI M (f 5) k) ∧ (∀ k, mI M' (f 6) k = if k = sn then nI (1440 * d + m + n) else mI M (f 6) k) ∧ ∀ x, x < 720 → mI M' (f 4) x = nI (if x = d then un τ 8 (720 * c + d) + shH n m else if x = d + 1 then un τ 8 (720 * c + (d + 1)) + (shN n - shH n m) else un τ 8 (720 * c + x)))) ar ss 0 0 (gA G)) 6 (wI (wI (wI M (f 5) sn (nI (1440 * d + m))) (f 6) sn (nI (1440 * d + m + n))) (f 0) 10 (nI (sn + 1))) 0 0 82 [(0, .ref (f 0)), (1, .int (nI d)), (2, .int (nI m)), (3, .int (nI n))] [.int (nI (shN n))] := by
        skip
        have hsh : shH n m ≤ shN n ∧ shN n ≤ 1440 := ⟨by unfold shH; split <;> omega, by unfold shN; split <;> omega⟩
        refine r_istore C (lo' := [(4, .int (nI (shN n))), (0, .ref (f 0)), (1, .int (nI d)), (2, .int (nI m)), (3, .int (nI n))]) dX3_addShift_82 (by decide) rfl ?_
        refine r_iload C 0 dX3_addShift_84 rfl ?_
        refine r_sipush C (v := nI 1440) dX3_addShift_86 (by decide) ?_
        refine r_iload_n C 3 dX3_addShift_89 rfl rfl ?_
        refine r_isubN C (by omega) dX3_addShift_90 ?_
        refine r_minIN C km_X3_87 (by omega) (by omega) (Nat.le_of_ble_eq_true rfl) (Nat.le_of_ble_eq_true rfl) (by first | exact Nat.zero_le _ | decide) (by first | exact Nat.zero_le _ | decide) dX3_addShift_91 ?_
        refine V.ei (y := nI (shH n m)) (congrArg nI (by unfold shH; split <;> omega)) ?_
        refine r_istore C (lo' := [(5, .int (nI (shH n m))), (4, .int (nI (shN n))), (0, .ref (f 0)), (1, .int (nI d)), (2, .int (nI m)), (3, .int (nI n))]) dX3_addShift_94 (by decide) rfl ?_
        refine r_aload_n C 2 dX3_addShift_96 rfl rfl ?_
        refine r_getR C (b := (f 4)) fl_X3_20 rfl (hb.k 0 6 rfl) (hb.r 0 7 4 rfl) dX3_addShift_97 ?_
        refine r_iload_n C 3 dX3_addShift_100 rfl rfl ?_
        refine r_dup2 C dX3_addShift_101 rfl rfl ?_
        refine r_ialoadN C (hb.k 4 20 rfl) (hb.n 4 720 rfl) (by omega) (by omega) dX3_addShift_102 ?_
        refine V.ei (y := nI (un τ 8 (720 * c + d))) ((congrFun (wI_a (hb.ne 4 0 rfl)) _).trans ((congrFun (wI_a (hb.ne 4 6 rfl)) _).trans ((congrFun (wI_a (hb.ne 4 5 rfl)) _).trans (hmi _ (by omega))))) ?_
        refine r_iload C 0 dX3_addShift_103 rfl ?_
        refine r_iaddN C dX3_addShift_105 ?_
        refine r_iastoreN C (hb.k 4 20 rfl) (hb.n 4 720 rfl) (by omega) (by omega) dX3_addShift_106 ?_
        refine r_iload_n C 3 dX3_addShift_107 rfl rfl ?_
        refine r_iconst C (v := nI 1) dX3_addShift_108 (by decide) ?_
        refine r_iaddN C dX3_addShift_109 ?_
        refine r_sipush C (v := nI 720) dX3_addShift_110 (by decide) ?_
        refine r_icmp_geN C (t := 132) (by omega) (by omega) dX3_addShift_113 (by decide) (fun c113 => ?_) (fun c113 => ?_)
        · skip
          refine r_aload_n C 2 dX3_addShift_132 rfl rfl ?_
          refine r_iconst C (v := nI 1) dX3_addShift_133 (by decide) ?_
          refine r_putZ C fl_X3_30 (by decide) (hb.k 0 6 rfl) dX3_addShift_134 ?_
          exact r_vret C hr (ash_a hb hmi (by omega)) (by first | exact Nat.zero_le _ | decide) (by first | exact Nat.zero_le _ | decide) dX3_addShift_137
        · skip
          refine r_aload_n C 2 dX3_addShift_116 rfl rfl ?_
          refine r_getR C (b := (f 4)) fl_X3_20 rfl (hb.k 0 6 rfl) (hb.r 0 7 4 rfl) dX3_addShift_117 ?_
          refine r_iload_n C 3 dX3_addShift_120 rfl rfl ?_
          refine r_iconst C (v := nI 1) dX3_addShift_121 (by decide) ?_
          refine r_iaddN C dX3_addShift_122 ?_
          refine r_dup2 C dX3_addShift_123 rfl rfl ?_
          refine r_ialoadN C (hb.k 4 20 rfl) (hb.n 4 720 rfl) (by omega) (by omega) dX3_addShift_124 ?_
          refine V.ei (y := nI (un τ 8 (720 * c + (d + 1)))) ((wI_k (by omega)).trans ((congrFun (wI_a (hb.ne 4 0 rfl)) _).trans ((congrFun (wI_a (hb.ne 4 6 rfl)) _).trans ((congrFun (wI_a (hb.ne 4 5 rfl)) _).trans (hmi _ (by omega)))))) ?_
          refine r_iload C 1 dX3_addShift_125 rfl ?_
          refine r_iload C 0 dX3_addShift_127 rfl ?_
          refine r_isubN C (by omega) dX3_addShift_129 ?_
          refine r_iaddN C dX3_addShift_130 ?_
          refine r_iastoreN C (hb.k 4 20 rfl) (hb.n 4 720 rfl) (by omega) (by omega) dX3_addShift_131 ?_
          refine r_aload_n C 2 dX3_addShift_132 rfl rfl ?_
          refine r_iconst C (v := nI 1) dX3_addShift_133 (by decide) ?_
          refine r_putZ C fl_X3_30 (by decide) (hb.k 0 6 rfl) dX3_addShift_134 ?_
          exact r_vret C hr (ash_b hb hmi) (by first | exact Nat.zero_le _ | decide) (by first | exact Nat.zero_le _ | decide) dX3_addShift_137
      refine r_iload_n C 3 dX3_addShift_67 rfl rfl ?_
      refine r_sipush C (v := nI 360) dX3_addShift_68 (by decide) ?_
      refine r_icmp_leN C (t := 81) (by omega) (by omega) dX3_addShift_71 (by decide) (fun c71 => ?_) (fun c71 => ?_)
      · skip
        refine r_iload_n C 3 dX3_addShift_81 rfl rfl ?_
        refine V.ei (y := nI (shN n)) (congrArg nI (by unfold shN; rw [if_neg (by omega)])) ?_
        exact jn82
      · skip
        refine r_iload_n C 3 dX3_addShift_74 rfl rfl ?_
        refine r_bipush C (v := nI 30) dX3_addShift_75 (by decide) ?_
        refine r_isubN C (by omega) dX3_addShift_77 ?_
        refine r_goto C (t := 82) dX3_addShift_78 (by decide) ?_
        refine V.ei (y := nI (shN n)) (congrArg nI (by unfold shN; rw [if_pos (by omega)])) ?_
        exact jn82
    · exact absurd hd (by omega)
/-- what a contract's pays were told -/
def pyV (τ : Mu) (c : Nat) : Nat → Option Int32 := fun d => if un τ 2 c ≤ d ∧ d ≤ un τ 3 c ∧ 0 ≤ τ.1 6 (720 * c + d) then some (τ.1 6 (720 * c + d)) else none
theorem tpy_e {τ : Mu} {c x p : Nat} {M M1 : Mem} {f : Nat → Nat} {r : Option Value} (hb : Blk tbCo (mK M) (mN M) (mR M) f) (hfm : frm (fun a => a = f 2 ∨ a = f 3) M M1) (hsv : StV (upV (pyV τ c) x (nI p)) (mI M1) (f 2) (f 3) 720) (hx : x ≤ un τ 3 c) :
    r = r ∧ frm (fun a => a = f 0 ∨ a = f 2 ∨ a = f 3) M (wI M1 (f 0) 11 (nI 1)) ∧ (∀ k, k ≠ 11 → mI (wI M1 (f 0) 11 (nI 1)) (f 0) k = mI M (f 0) k) ∧ (if x ≤ un τ 3 c then mI (wI M1 (f 0) 11 (nI 1)) (f 0) 11 = nI 1 ∧ StV (upV (pyV τ c) x (nI p)) (mI (wI M1 (f 0) 11 (nI 1))) (f 2) (f 3) 720 else wI M1 (f 0) 11 (nI 1) = M) := by
  refine ⟨rfl, (hfm.mono (fun a h => .inr h)).wi _ _ (.inl rfl), fun k hk => (wI_k hk).trans (congrFun (hfm.i (fun q => q.elim (hb.ne 0 2 rfl) (hb.ne 0 3 rfl))) k), ?_⟩
  rw [if_pos hx]
  refine ⟨wI_i, fun y hy => ?_⟩
  rw [wI_a (hb.ne 3 0 rfl), wI_a (hb.ne 2 0 rfl)]
  exact hsv y hy
