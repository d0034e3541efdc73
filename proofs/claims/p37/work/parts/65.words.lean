/-! THE CLASS: elements told -/
def wdU (τ : Mu) (w : Nat) (y : Int32) : Mu := sI (sI (sI τ 22 (60 + un τ 24 6) (nI w)) 23 (60 + un τ 24 6) y) 24 6 (nI (un τ 24 6 + 1))
theorem wdU_24 {τ : Mu} (w : Nat) (y : Int32) (h : un τ 24 6 < 10) : un (wdU τ w y) 24 6 = un τ 24 6 + 1 := un_of sI_s (by omega)
theorem wdU_24o {τ : Mu} (w : Nat) (y : Int32) {e : Nat} (h : e ≠ 6) : un (wdU τ w y) 24 e = un τ 24 e := un_cg ((sI_k h).trans rfl)
theorem wdU_22 {τ : Mu} (w : Nat) (y : Int32) (x : Nat) : (wdU τ w y).1 22 x = if x = 60 + un τ 24 6 then nI w else τ.1 22 x := by
  show up2 (up2 (up2 τ.1 22 (60 + un τ 24 6) (nI w)) 23 (60 + un τ 24 6) y) 24 6 (nI (un τ 24 6 + 1)) 22 x = _
  rw [up2_a _ _ (by decide), up2_a _ _ (by decide)]
  by_cases e : x = 60 + un τ 24 6
  · subst e; rw [if_pos rfl]; exact up2_same _ _ _ _
  · rw [if_neg e]; exact up2_k _ _ e
theorem wdU_23 {τ : Mu} (w : Nat) (y : Int32) (x : Nat) : (wdU τ w y).1 23 x = if x = 60 + un τ 24 6 then y else τ.1 23 x := by
  show up2 (up2 (up2 τ.1 22 (60 + un τ 24 6) (nI w)) 23 (60 + un τ 24 6) y) 24 6 (nI (un τ 24 6 + 1)) 23 x = _
  rw [up2_a _ _ (by decide)]
  by_cases e : x = 60 + un τ 24 6
  · subst e; rw [if_pos rfl]; exact up2_same _ _ _ _
  · rw [if_neg e]; exact (up2_k _ _ e).trans (up2_a _ _ (by decide))
theorem wdU_o {τ : Mu} (w : Nat) (y : Int32) {k : Nat} (x : Nat) (h : k ≠ 22 ∧ k ≠ 23 ∧ k ≠ 24) : (wdU τ w y).1 k x = τ.1 k x := (up2_a _ _ h.2.2).trans ((up2_a _ _ h.2.1).trans (up2_a _ _ h.1))
theorem wdU_f {τ : Mu} {w : Nat} {y : Int32} (hw : w < 10) (h : un τ 24 6 < 10) : fmD (wdU τ w y) 6 (un τ 24 6 + 1) = if w < 4 then fmD τ 6 (un τ 24 6) + 1 else fmD τ 6 (un τ 24 6) - 1 := by
  show (if un (wdU τ w y) 22 (60 + un τ 24 6) < 4 then fmD (wdU τ w y) 6 (un τ 24 6) + 1 else fmD (wdU τ w y) 6 (un τ 24 6) - 1) = _
  have e1 : un (wdU τ w y) 22 (60 + un τ 24 6) = w := un_of (by rw [wdU_22, if_pos rfl]) (by omega)
  have e2 : fmD (wdU τ w y) 6 (un τ 24 6) = fmD τ 6 (un τ 24 6) := fmD_cg (fun j hj => by rw [wdU_22, if_neg (by omega)])
  rw [e1, e2]
theorem wdU_n {τ : Mu} {w n : Nat} {y : Int32} (hw : w < 10) (hy : w = 2 → y = nI n ∧ n < 6) (h : un τ 24 6 < 10) : needN (wdU τ w y) 6 = needN τ 6 ||| (if w = 2 then 2 ^ n else 0) := by
  unfold needN
  rw [wdU_24 w y h]
  show needK (wdU τ w y) 6 (un τ 24 6) ||| (if un (wdU τ w y) 22 (60 + un τ 24 6) = 2 then 2 ^ un (wdU τ w y) 23 (60 + un τ 24 6) else 0) = _
  have e1 : un (wdU τ w y) 22 (60 + un τ 24 6) = w := un_of (by rw [wdU_22, if_pos rfl]) (by omega)
  have e2 : needK (wdU τ w y) 6 (un τ 24 6) = needK τ 6 (un τ 24 6) := needK_cg' (fun j hj => ⟨by rw [wdU_22, if_neg (by omega)], by rw [wdU_23, if_neg (by omega)]⟩)
  rw [e1, e2]
  by_cases e : w = 2
  · have e3 : un (wdU τ w y) 23 (60 + un τ 24 6) = n := un_of (by rw [wdU_23, if_pos rfl]; exact (hy e).1) (by have := (hy e).2; omega)
    rw [if_pos e, if_pos e, e3]
  · rw [if_neg e, if_neg e]
theorem wdU_no {τ : Mu} {w : Nat} {y : Int32} {e : Nat} (he : e < 6) (hl : un τ 24 e ≤ 10) : needN (wdU τ w y) e = needN τ e := by
  unfold needN
  rw [wdU_24o w y (by omega)]
  exact needK_cg' (fun j hj => ⟨by rw [wdU_22, if_neg (by omega)], by rw [wdU_23, if_neg (by omega)]⟩)
theorem pw_elf {τ : Mu} (hw : WF τ) {M : Mem} {f : Nat → Nat} (hb : Blk tbEl (mK M) (mN M) (mR M) f) (hf : ElF τ (mI M) f) {w n : Nat} {y H : Int32} (hw9 : w < 10) (hl : un τ 24 6 < 10) (hy : w = 2 → y = nI n ∧ n < 6) (hH : H = nI (if w < 4 then fmD τ 6 (un τ 24 6) + 1 else fmD τ 6 (un τ 24 6) - 1)) :
    ElF (wdU τ w y) (mI (wI (wI (wI (wI (wI M (f 8) (un τ 24 6) (nI w)) (f 16) (un τ 24 6) y) (f 17) 6 (nI (un τ 24 6 + 1))) (f 0) 1 H) (f 18) 6 (nI (needN τ 6 ||| (if w = 2 then 2 ^ n else 0))))) f := by
  obtain ⟨a0, a1, a2, a3, a4, a5, a6, a7⟩ := hf
  have u26 : un (wdU τ w y) 26 26 = un τ 26 26 := un_cg (wdU_o w y 26 (by decide))
  have nn : ∀ {o t : Nat}, o < 23 → t < 23 → o ≠ t → f o ≠ f t := fun {o t} h1 h2 h3 => hb.neq (show o < 23 from h1) (show t < 23 from h2) h3
  refine ⟨?_, ?_, fun e he k hk => ?_, fun e he k hk => ?_, fun e he => ?_, fun e he => ?_, fun e he => ?_, fun k hk => ?_⟩
  · rw [u26, wI_a (hb.ne 0 18 rfl), wI_k (by decide), wI_a (hb.ne 0 17 rfl), wI_a (hb.ne 0 16 rfl), wI_a (hb.ne 0 8 rfl)]; exact a0
  · rw [wI_a (hb.ne 0 18 rfl), wI_i, wdU_24 w y hl, wdU_f hw9 hl]; exact hH
  · rw [wI_a (nn (by omega) (by decide) (by omega)), wI_a (nn (by omega) (by decide) (by omega)), wI_a (nn (by omega) (by decide) (by omega)), wI_a (nn (by omega) (by decide) (by omega)), wdU_22]
    by_cases z : e = 6
    · subst z
      by_cases z2 : k = un τ 24 6
      · subst z2; rw [if_pos rfl]; exact wI_i
      · rw [if_neg (by omega)]; exact (wI_k z2).trans (a2 6 he k hk)
    · rw [if_neg (by omega), wI_a (nn (by omega) (by decide) (by omega))]; exact a2 e he k hk
  · rw [wI_a (nn (by omega) (by decide) (by omega)), wI_a (nn (by omega) (by decide) (by omega)), wI_a (nn (by omega) (by decide) (by omega)), wdU_23]
    by_cases z : e = 6
    · subst z
      by_cases z2 : k = un τ 24 6
      · subst z2; rw [if_pos rfl]; exact wI_i
      · rw [if_neg (by omega)]; exact (wI_k z2).trans ((congrFun (wI_a (hb.ne 16 8 rfl)) k).trans (a3 6 he k hk))
    · rw [if_neg (by omega), wI_a (nn (by omega) (by decide) (by omega)), wI_a (nn (by omega) (by decide) (by omega))]; exact a3 e he k hk
  · rw [wI_a (hb.ne 17 18 rfl), wI_a (hb.ne 17 0 rfl)]
    by_cases z : e = 6
    · subst z; rw [wI_i, wdU_24 w y hl]
    · rw [wI_k z, wI_a (hb.ne 17 16 rfl), wI_a (hb.ne 17 8 rfl), wdU_24o w y z]; exact a4 e he
  · by_cases z : e = 6
    · subst z; rw [wI_i, wdU_n hw9 hy hl]
    · rw [wI_k z, wI_a (hb.ne 18 0 rfl), wI_a (hb.ne 18 17 rfl), wI_a (hb.ne 18 16 rfl), wI_a (hb.ne 18 8 rfl), wdU_no (by omega) (hw.el e he).2]; exact a5 e he
  · rw [u26] at he
    rw [wI_a (hb.ne 19 18 rfl), wI_a (hb.ne 19 0 rfl), wI_a (hb.ne 19 17 rfl), wI_a (hb.ne 19 16 rfl), wI_a (hb.ne 19 8 rfl), un_cg (wdU_o w y e (by decide))]; exact a6 e he
  · rw [u26] at hk
    rw [wI_a (hb.ne 20 18 rfl), wI_a (hb.ne 20 0 rfl), wI_a (hb.ne 20 17 rfl), wI_a (hb.ne 20 16 rfl), wI_a (hb.ne 20 8 rfl), un_cg (wdU_o w y k (by decide))]; exact a7 k hk
set_option maxHeartbeats 4000000 in
set_option maxRecDepth 100000 in
theorem c_X4_takesWord (l : Launch) (hfl : l.flags = flags0) (G : gW) (M : Mem) (f : Nat → Nat) (hb : Blk tbEl (mK M) (mN M) (mR M) f) (τ : Mu) (hw : WF τ) (hf : ElF τ (mI M) f) (w : Nat) (hw9 : w < 10) : CT l yX4_takesWord cX4_takesWord 2 (some .boolean) 0 0 0 0 G M [.ref (f 0), .int (nI w)] (fun v M' => v = some (.int (bI (decide (un τ 24 6 < 10 ∧ (w < 4 ∨ 2 ≤ fmD τ 6 (un τ 24 6)))))) ∧ M = M') := by
  refine CT.of hfl rfl (Nat.le_of_ble_eq_true rfl) ?_
  intro pp ee ss mm ar bw mt cd C hgX hr hini
  have hne := hw.ne.2
  obtain ⟨he0, he1, hwd, hnm, hle, hnd, hse, hod⟩ := id hf
  have hl6 := (hw.el 6 (by decide)).2
  have hfd := fmD_le τ 6 (un τ 24 6)
  refine V.eLo (lo' := [(0, .ref (f 0)), (1, .int (nI w))]) rfl ?_
  refine r_aload_n C 0 dX4_takesWord_0 rfl rfl ?_
  refine r_getR C (b := (f 17)) fl_X4_19 rfl (hb.k 0 7 rfl) (hb.r 0 4 17 rfl) dX4_takesWord_1 ?_
  refine r_bipush C (v := nI 6) dX4_takesWord_4 (by decide) ?_
  refine r_ialoadN C (hb.k 17 20 rfl) (hb.n 17 7 rfl) (by omega) (by omega) dX4_takesWord_6 ?_
  refine V.ei (y := nI (un τ 24 6)) (hle 6 (by decide)) ?_
  refine r_bipush C (v := nI 10) dX4_takesWord_7 (by decide) ?_
  refine r_icmp_geN C (t := 29) (by omega) (by omega) dX4_takesWord_9 (by decide) (fun c9 => ?_) (fun c9 => ?_)
  · skip
    refine r_iconst C (v := nI 0) dX4_takesWord_29 (by decide) ?_
    exact r_zret C hr (by decide) (⟨congrArg (fun z => some (Value.int z)) (d_neg (by omega)).symm, rfl⟩) (by first | exact Nat.zero_le _ | decide) (by first | exact Nat.zero_le _ | decide) dX4_takesWord_30
  · skip
    refine r_iload_n C 1 dX4_takesWord_12 rfl rfl ?_
    refine r_iconst C (v := nI 4) dX4_takesWord_13 (by decide) ?_
    refine r_icmp_ltN C (t := 25) (by omega) (by omega) dX4_takesWord_14 (by decide) (fun c14 => ?_) (fun c14 => ?_)
    · skip
      refine r_iconst C (v := nI 1) dX4_takesWord_25 (by decide) ?_
      refine r_goto C (t := 30) dX4_takesWord_26 (by decide) ?_
      exact r_zret C hr (by decide) (⟨congrArg (fun z => some (Value.int z)) (d_pos (by omega)).symm, rfl⟩) (by first | exact Nat.zero_le _ | decide) (by first | exact Nat.zero_le _ | decide) dX4_takesWord_30
    · skip
      refine r_aload_n C 0 dX4_takesWord_17 rfl rfl ?_
      refine r_getI C fl_X4_39 rfl (hb.k 0 7 rfl) dX4_takesWord_18 ?_
      refine V.ei (y := nI (fmD τ 6 (un τ 24 6))) (he1) ?_
      refine r_iconst C (v := nI 2) dX4_takesWord_21 (by decide) ?_
      refine r_icmp_ltN C (t := 29) (by omega) (by omega) dX4_takesWord_22 (by decide) (fun c22 => ?_) (fun c22 => ?_)
      · skip
        refine r_iconst C (v := nI 0) dX4_takesWord_29 (by decide) ?_
        exact r_zret C hr (by decide) (⟨congrArg (fun z => some (Value.int z)) (d_neg (by omega)).symm, rfl⟩) (by first | exact Nat.zero_le _ | decide) (by first | exact Nat.zero_le _ | decide) dX4_takesWord_30
      · skip
        refine r_iconst C (v := nI 1) dX4_takesWord_25 (by decide) ?_
        refine r_goto C (t := 30) dX4_takesWord_26 (by decide) ?_
        exact r_zret C hr (by decide) (⟨congrArg (fun z => some (Value.int z)) (d_pos (by omega)).symm, rfl⟩) (by first | exact Nat.zero_le _ | decide) (by first | exact Nat.zero_le _ | decide) dX4_takesWord_30
set_option maxHeartbeats 4000000 in
set_option maxRecDepth 100000 in
theorem c_X4_putWord (l : Launch) (hfl : l.flags = flags0) (G : gW) (M : Mem) (f : Nat → Nat) (hb : Blk tbEl (mK M) (mN M) (mR M) f) (τ : Mu) (hw : WF τ) (hf : ElF τ (mI M) f) (w n : Nat) (y : Int32) (hw9 : w < 10) (hl : un τ 24 6 < 10) (hy : w = 2 → y = nI n ∧ n < 6) (h2 : w < 4 ∨ 2 ≤ fmD τ 6 (un τ 24 6)) : CT l yX4_putWord cX4_putWord 4 (some .int) 0 0 0 0 G M [.ref (f 0), .int (nI w), .int y] (fun v M' => v = some (.int (nI (un τ 24 6 + 1))) ∧ frm (fun a => a = f 0 ∨ a = f 8 ∨ a = f 16 ∨ a = f 17 ∨ a = f 18) M M' ∧ ElF (wdU τ w y) (mI M') f) := by
  refine CT.of hfl rfl (Nat.le_of_ble_eq_true rfl) ?_
  intro pp ee ss mm ar bw mt cd C hgX hr hini
  have hne := hw.ne.2
  obtain ⟨he0, he1, hwd, hnm, hle, hnd, hse, hod⟩ := id hf
  have hl6 := (hw.el 6 (by decide)).2
  have hfd := fmD_le τ 6 (un τ 24 6)
  have hn66 := needN_lt hw.e (show 6 < 7 by decide)
  refine V.eLo (lo' := [(0, .ref (f 0)), (1, .int (nI w)), (2, .int y)]) rfl ?_
  refine r_aload_n C 0 dX4_putWord_0 rfl rfl ?_
  refine r_getR C (b := (f 17)) fl_X4_19 rfl (hb.k 0 7 rfl) (hb.r 0 4 17 rfl) dX4_putWord_1 ?_
  refine r_bipush C (v := nI 6) dX4_putWord_4 (by decide) ?_
  refine r_ialoadN C (hb.k 17 20 rfl) (hb.n 17 7 rfl) (by omega) (by omega) dX4_putWord_6 ?_
  refine V.ei (y := nI (un τ 24 6)) (hle 6 (by decide)) ?_
  refine r_istore_n C (lo' := [(3, .int (nI (un τ 24 6))), (0, .ref (f 0)), (1, .int (nI w)), (2, .int y)]) dX4_putWord_7 rfl (by decide) rfl ?_
  refine r_iload_n C 0 dX4_putWord_8 rfl rfl ?_
  refine r_bipush C (v := nI 10) dX4_putWord_9 (by decide) ?_
  refine r_icmp_geN C (t := 85) (by omega) (by omega) dX4_putWord_11 (by decide) (fun c11 => ?_) (fun c11 => ?_)
  · exact absurd hl (by omega)
  · skip
    refine r_aload_n C 1 dX4_putWord_14 rfl rfl ?_
    refine r_getR C (b := (f 1)) fl_X4_13 rfl (hb.k 0 7 rfl) (hb.r 0 2 1 rfl) dX4_putWord_15 ?_
    refine r_bipush C (v := nI 6) dX4_putWord_18 (by decide) ?_
    refine r_aaloadN C (b := (f 8)) 4 (by decide) (hb.k 1 27 rfl) (hb.n 1 7 rfl) (by omega) (by omega) (hb.r 1 6 8 rfl) dX4_putWord_20 ?_
    refine r_iload_n C 0 dX4_putWord_21 rfl rfl ?_
    refine r_iload_n C 2 dX4_putWord_22 rfl rfl ?_
    refine r_iastoreN C (hb.k 8 20 rfl) (hb.n 8 10 rfl) (by omega) (by omega) dX4_putWord_23 ?_
    refine r_aload_n C 1 dX4_putWord_24 rfl rfl ?_
    refine r_getR C (b := (f 9)) fl_X4_16 rfl (hb.k 0 7 rfl) (hb.r 0 3 9 rfl) dX4_putWord_25 ?_
    refine r_bipush C (v := nI 6) dX4_putWord_28 (by decide) ?_
    refine r_aaloadN C (b := (f 16)) 4 (by decide) (hb.k 9 27 rfl) (hb.n 9 7 rfl) (by omega) (by omega) (hb.r 9 6 16 rfl) dX4_putWord_30 ?_
    refine r_iload_n C 0 dX4_putWord_31 rfl rfl ?_
    refine r_iload_n C 3 dX4_putWord_32 rfl rfl ?_
    refine r_iastoreN C (hb.k 16 20 rfl) (hb.n 16 10 rfl) (by omega) (by omega) dX4_putWord_33 ?_
    refine r_aload_n C 1 dX4_putWord_34 rfl rfl ?_
    refine r_getR C (b := (f 17)) fl_X4_19 rfl (hb.k 0 7 rfl) (hb.r 0 4 17 rfl) dX4_putWord_35 ?_
    refine r_bipush C (v := nI 6) dX4_putWord_38 (by decide) ?_
    refine r_iload_n C 0 dX4_putWord_40 rfl rfl ?_
    refine r_iconst C (v := nI 1) dX4_putWord_41 (by decide) ?_
    refine r_iaddN C dX4_putWord_42 ?_
    refine r_iastoreN C (hb.k 17 20 rfl) (hb.n 17 7 rfl) (by omega) (by omega) dX4_putWord_43 ?_
    refine r_aload_n C 1 dX4_putWord_44 rfl rfl ?_
    have jn60 : V pp l ee ({ frames := 0, cells := 0, slots := 0, locals := 0 } : Room) ss mm ar bw mt cd G (MQ bw (Ke G (fun v M' => v = some (.int (nI (un τ 24 6 + 1))) ∧ frm (fun a => a = f 0 ∨ a = f 8 ∨ a = f 16 ∨ a = f 17 ∨ a = f 18) M M' ∧ ElF (wdU τ w y) (mI M') f)) ar ss 0 0 (gA G)) 4 (wI (wI (wI M (f 8) (un τ 24 6) (nI w)) (f 16) (un τ 24 6) y) (f 17) 6 (nI (un τ 24 6 + 1))) 0 0 60 [(3, .int (nI (un τ 24 6))), (0, .ref (f 0)), (1, .int (nI w)), (2, .int y)] [.int (nI (if w < 4 then fmD τ 6 (un τ 24 6) + 1 else fmD τ 6 (un τ 24 6) - 1)), .ref (f 0)] := by
      skip
      refine r_putI C fl_X4_39 (hb.k 0 7 rfl) dX4_putWord_60 ?_
      refine r_aload_n C 1 dX4_putWord_63 rfl rfl ?_
      refine r_getR C (b := (f 18)) fl_X4_23 rfl (hb.k 0 7 rfl) (hb.r 0 5 18 rfl) dX4_putWord_64 ?_
      refine r_bipush C (v := nI 6) dX4_putWord_67 (by decide) ?_
      have jn84 : V pp l ee ({ frames := 0, cells := 0, slots := 0, locals := 0 } : Room) ss mm ar bw mt cd G (MQ bw (Ke G (fun v M' => v = some (.int (nI (un τ 24 6 + 1))) ∧ frm (fun a => a = f 0 ∨ a = f 8 ∨ a = f 16 ∨ a = f 17 ∨ a = f 18) M M' ∧ ElF (wdU τ w y) (mI M') f)) ar ss 0 0 (gA G)) 4 (wI (wI (wI (wI M (f 8) (un τ 24 6) (nI w)) (f 16) (un τ 24 6) y) (f 17) 6 (nI (un τ 24 6 + 1))) (f 0) 1 (nI (if w < 4 then fmD τ 6 (un τ 24 6) + 1 else fmD τ 6 (un τ 24 6) - 1))) 0 0 84 [(3, .int (nI (un τ 24 6))), (0, .ref (f 0)), (1, .int (nI w))] [.int (nI (needN τ 6 ||| (if w = 2 then 2 ^ n else 0))), .int (nI 6), .ref (f 18)] := by
        skip
        refine r_iastoreN C (hb.k 18 20 rfl) (hb.n 18 7 rfl) (by omega) (by omega) dX4_putWord_84 ?_
        refine r_aload_n C 1 dX4_putWord_85 rfl rfl ?_
        refine r_getR C (b := (f 17)) fl_X4_19 rfl (hb.k 0 7 rfl) (hb.r 0 4 17 rfl) dX4_putWord_86 ?_
        refine r_bipush C (v := nI 6) dX4_putWord_89 (by decide) ?_
        refine r_ialoadN C (hb.k 17 20 rfl) (hb.n 17 7 rfl) (by omega) (by omega) dX4_putWord_91 ?_
        refine V.ei (y := nI (un τ 24 6 + 1)) ((congrFun (wI_a (hb.ne 17 18 rfl)) _).trans ((congrFun (wI_a (hb.ne 17 0 rfl)) _).trans wI_i)) ?_
        exact r_iret C hr (⟨rfl, ((((((frm.rf _ _).wi _ _ (.inr (.inl rfl))).wi _ _ (.inr (.inr (.inl rfl)))).wi _ _ (.inr (.inr (.inr (.inl rfl))))).wi _ _ (.inl rfl)).wi _ _ (.inr (.inr (.inr (.inr rfl))))), pw_elf hw hb hf hw9 hl hy rfl⟩) (by first | exact Nat.zero_le _ | decide) (by first | exact Nat.zero_le _ | decide) dX4_putWord_92
      refine r_dup2 C dX4_putWord_69 rfl rfl ?_
      refine r_ialoadN C (hb.k 18 20 rfl) (hb.n 18 7 rfl) (by omega) (by omega) dX4_putWord_70 ?_
      refine V.ei (y := nI (needN τ 6)) ((congrFun (wI_a (hb.ne 18 0 rfl)) _).trans ((congrFun (wI_a (hb.ne 18 17 rfl)) _).trans ((congrFun (wI_a (hb.ne 18 16 rfl)) _).trans ((congrFun (wI_a (hb.ne 18 8 rfl)) _).trans (hnd 6 (by decide)))))) ?_
      refine r_iload_n C 2 dX4_putWord_71 rfl rfl ?_
      refine r_iconst C (v := nI 2) dX4_putWord_72 (by decide) ?_
      refine r_icmp_neN C (t := 82) (by omega) (by omega) dX4_putWord_73 (by decide) (fun c73 => ?_) (fun c73 => ?_)
      · skip
        refine r_iconst C (v := nI 0) dX4_putWord_82 (by decide) ?_
        refine r_ior C dX4_putWord_83 ?_
        refine V.ei (y := nI ((needN τ 6) ||| 0)) (nI_or (by omega) (by omega)) ?_
        refine V.ei (y := nI (needN τ 6 ||| (if w = 2 then 2 ^ n else 0))) (congrArg nI (by rw [if_neg c73])) ?_
        refine V.sub [0, 1, 2] (lo' := [(3, .int (nI (un τ 24 6))), (0, .ref (f 0)), (1, .int (nI w))]) rfl ?_
        exact jn84
      · skip
        have hn6 := (hy c73).2
        have hp2 := (sh1 (n := n) (by omega)).1
        refine V.eLo (lo' := [(3, .int (nI (un τ 24 6))), (0, .ref (f 0)), (1, .int (nI w)), (2, .int (nI n))]) (by rw [(hy c73).1]) ?_
        refine r_iconst C (v := nI 1) dX4_putWord_76 (by decide) ?_
        refine r_iload_n C 3 dX4_putWord_77 rfl rfl ?_
        refine r_ishl C dX4_putWord_78 ?_
        refine V.ei (y := nI (2 ^ n)) (nI_shl1 (by omega)) ?_
        refine r_goto C (t := 83) dX4_putWord_79 (by decide) ?_
        refine r_ior C dX4_putWord_83 ?_
        refine V.ei (y := nI ((needN τ 6) ||| (2 ^ n))) (nI_or (by omega) (by omega)) ?_
        refine V.ei (y := nI (needN τ 6 ||| (if w = 2 then 2 ^ n else 0))) (congrArg nI (by rw [if_pos c73])) ?_
        refine V.sub [0, 1, 2] (lo' := [(3, .int (nI (un τ 24 6))), (0, .ref (f 0)), (1, .int (nI w))]) rfl ?_
        exact jn84
    refine r_dup C dX4_putWord_45 rfl ?_
    refine r_getI C fl_X4_39 rfl (hb.k 0 7 rfl) dX4_putWord_46 ?_
    refine V.ei (y := nI (fmD τ 6 (un τ 24 6))) ((congrFun (wI_a (hb.ne 0 17 rfl)) 1).trans ((congrFun (wI_a (hb.ne 0 16 rfl)) 1).trans ((congrFun (wI_a (hb.ne 0 8 rfl)) 1).trans he1))) ?_
    refine r_iload_n C 2 dX4_putWord_49 rfl rfl ?_
    refine r_iconst C (v := nI 4) dX4_putWord_50 (by decide) ?_
    refine r_icmp_geN C (t := 58) (by omega) (by omega) dX4_putWord_51 (by decide) (fun c51 => ?_) (fun c51 => ?_)
    · skip
      refine r_iconst C (v := (-1)) dX4_putWord_58 (by decide) ?_
      refine r_iadd C dX4_putWord_59 ?_
      refine V.ei (y := nI (if w < 4 then fmD τ 6 (un τ 24 6) + 1 else fmD τ 6 (un τ 24 6) - 1)) (by exact (nI_m1 (by omega)).trans (congrArg nI (if_neg (by omega)).symm)) ?_
      exact jn60
    · skip
      refine r_iconst C (v := nI 1) dX4_putWord_54 (by decide) ?_
      refine r_goto C (t := 59) dX4_putWord_55 (by decide) ?_
      refine r_iaddN C dX4_putWord_59 ?_
      refine V.ei (y := nI (if w < 4 then fmD τ 6 (un τ 24 6) + 1 else fmD τ 6 (un τ 24 6) - 1)) (congrArg nI (by rw [if_pos (by omega)])) ?_
      exact jn60

