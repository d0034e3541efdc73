/-! THE REFERENCE: the public methods -/
def inB (x : Int32) (a b : Int64) : Bool := decide (a ≤ x.toInt64 ∧ x.toInt64 ≤ b)
theorem inB_N {x : Int32} {a b : Nat} (ha : a < 2 ^ 31) (hb : b < 2 ^ 31) (h : inB x (lN a) (lN b) = true) : ∃ n, a ≤ n ∧ n ≤ b ∧ x = nI n := by
  have h1 := of_decide_eq_true h
  rw [Int64.le_iff_toInt_le, Int64.le_iff_toInt_le, Int32.toInt_toInt64, pk_lT (by omega), pk_lT (by omega)] at h1
  have h3 : ¬ x < 0 := by rw [Int32.lt_iff_toInt_lt, Int32.toInt_zero]; omega
  obtain ⟨j, hj, rfl⟩ := nI_of h3
  rw [nI_toInt hj] at h1
  exact ⟨j, by omega, by omega, rfl⟩
def sckb (k : Nat) : Bool := (decide (46 ≤ k) && decide (k < 55)) && ((mkd.getD k 0 != 0) && ((mrk.getD k 0 != 0) && (List.range 55).all (fun q => decide (q < 46) || (mkd.getD q 0 == 0) || (q == k) || (mrk.getD q 0 != mrk.getD k 0))))
theorem sckb_ne {k q : Nat} (h : sckb k = true) (hq : (decide (46 ≤ q) && decide (q < 55)) = true) (hz : mkd.getD q 0 ≠ 0) (hk : q ≠ k) (mb : Nat) : ma mb q ≠ ma mb k := by
  unfold sckb at h
  simp only [Bool.and_eq_true, decide_eq_true_eq] at h hq
  have h3 := List.all_eq_true.mp h.2.2.2 q (List.mem_range.mpr hq.2)
  simp only [Bool.or_eq_true, beq_iff_eq, bne_iff_ne, decide_eq_true_eq] at h3
  have h4 : mrk.getD q 0 ≠ mrk.getD k 0 := by
    rcases h3 with ((h3 | h3) | h3) | h3
    · omega
    · exact absurd h3 hz
    · exact absurd h3 hk
    · exact h3
  unfold ma
  omega
theorem sckb_0 {k : Nat} (h : sckb k = true) (mb : Nat) : mb ≠ ma mb k := by
  unfold sckb at h
  simp only [Bool.and_eq_true, bne_iff_ne] at h
  unfold ma
  have := h.2.2.1
  omega
theorem sckb_z {k : Nat} (h : sckb k = true) : mkd.getD k 0 ≠ 0 := by
  unfold sckb at h
  simp only [Bool.and_eq_true, bne_iff_ne] at h
  exact h.2.1
theorem TEb.ui {i : Nat → Nat → Int32} {j : Nat → Nat → Int64} {mb : Nat} {τ : Mu} (h : TEb i j mb τ) (k x : Nat) (v : Int32) (hc : sckb k = true) : TEb (up2 i (ma mb k) x v) j mb (up2 τ.1 k x v, τ.2) := by
  intro q hq
  have h2 := h q hq
  by_cases z : mkd.getD q 0 = 0
  · rw [if_pos z] at h2 ⊢
    have e : q ≠ k := fun e => sckb_z hc (e ▸ z)
    rw [up2_a _ _ (sckb_0 hc mb), h2]
    exact (up2_a _ _ e).symm
  · rw [if_neg z] at h2 ⊢
    by_cases e : q = k
    · subst e
      refine ⟨fun y => ?_, h2.2⟩
      have h3 := h2.1 y
      unfold up2
      rw [if_pos rfl]
      show (if y = x then v else i (ma mb q) y) = if q = q then (if y = x then v else τ.1 q y) else τ.1 q y
      rw [if_pos rfl, h3]
    · refine ⟨fun y => ?_, h2.2⟩
      rw [up2_a _ _ (sckb_ne hc hq z e mb), h2.1 y]
      exact (up2_a _ _ e).symm
theorem TEb.ul {i : Nat → Nat → Int32} {j : Nat → Nat → Int64} {mb : Nat} {τ : Mu} (h : TEb i j mb τ) (k x : Nat) (v : Int64) (hc : sckb k = true) : TEb i (up2 j (ma mb k) x v) mb (τ.1, up2 τ.2 k x v) := by
  intro q hq
  have h2 := h q hq
  by_cases z : mkd.getD q 0 = 0
  · rw [if_pos z] at h2 ⊢
    exact h2
  · rw [if_neg z] at h2 ⊢
    by_cases e : q = k
    · subst e
      refine ⟨h2.1, fun y => ?_⟩
      have h3 := h2.2 y
      unfold up2
      rw [if_pos rfl]
      show (if y = x then v else j (ma mb q) y) = if q = q then (if y = x then v else τ.2 q y) else τ.2 q y
      rw [if_pos rfl, h3]
    · refine ⟨h2.1, fun y => ?_⟩
      rw [up2_a _ _ (sckb_ne hc hq z e mb), h2.2 y]
      exact (up2_a _ _ e).symm
theorem TEb.us {i : Nat → Nat → Int32} {j : Nat → Nat → Int64} {mb : Nat} {τ : Mu} (h : TEb i j mb τ) (k : Nat) (v : Int32) (hc : sck0 k = true) : TEb (up2 i mb k v) j mb (up2 τ.1 k k v, τ.2) := by
  unfold sck0 at hc
  simp only [Bool.and_eq_true, beq_iff_eq] at hc
  intro q hq
  have h2 := h q hq
  have hq2 := hq
  simp only [Bool.and_eq_true, decide_eq_true_eq] at hq2
  by_cases z : mkd.getD q 0 = 0
  · rw [if_pos z] at h2 ⊢
    by_cases e : q = k
    · subst e; rw [up2_same]; exact (up2_same _ _ _ _).symm
    · rw [up2_k _ _ e, h2]; exact (up2_a _ _ e).symm
  · rw [if_neg z] at h2 ⊢
    have h3 := List.all_eq_true.mp hc.2 q (List.mem_range.mpr (by omega))
    simp only [Bool.or_eq_true, beq_iff_eq, bne_iff_ne] at h3
    have h4 := h3.resolve_left z
    have e : q ≠ k := fun e => z (e ▸ hc.1)
    refine ⟨fun y => ?_, h2.2⟩
    rw [up2_a _ _ (by unfold ma; omega), h2.1 y]
    exact (up2_a _ _ e).symm
theorem TE.cgk {i : Nat → Nat → Int32} {j : Nat → Nat → Int64} {mb : Nat} {τ U : Mu} (h : TE i j mb τ) (hu : ∀ k, k < 46 → ∀ x, U.1 k x = τ.1 k x ∧ U.2 k x = τ.2 k x) : TE i j mb U := by
  intro k hk
  have h7 : k < 46 := by unfold told at hk; simp only [Bool.and_eq_true, decide_eq_true_eq] at hk; omega
  have h2 := h k hk
  by_cases z : mkd.getD k 0 = 0
  · rw [if_pos z] at h2 ⊢; rw [h2, (hu k h7 k).1]
  · rw [if_neg z] at h2 ⊢; exact ⟨fun x => (h2.1 x).trans (hu k h7 x).1.symm, fun x => (h2.2 x).trans (hu k h7 x).2.symm⟩
def cd1 (a : Bool) : Nat := if a = true then 0 else 1
def cd2 (a b : Bool) : Nat := if a = true then (if b = true then 0 else 2) else 1
def cd3 (a b c : Bool) : Nat := if a = true then (if b = true then (if c = true then 0 else 3) else 2) else 1
theorem cd1_0 {a : Bool} (h : cd1 a = 0) : a = true := by cases a <;> first | rfl | exact absurd h (by decide)
theorem cd2_0 {a b : Bool} (h : cd2 a b = 0) : a = true ∧ b = true := by cases a <;> cases b <;> first | exact ⟨rfl, rfl⟩ | exact absurd h (by decide)
theorem cd3_0 {a b c : Bool} (h : cd3 a b c = 0) : a = true ∧ b = true ∧ c = true := by cases a <;> cases b <;> cases c <;> first | exact ⟨rfl, rfl, rfl⟩ | exact absurd h (by decide)
theorem cd1_le (a : Bool) : cd1 a ≤ 3 := by cases a <;> decide
theorem cd2_le (a b : Bool) : cd2 a b ≤ 3 := by cases a <;> cases b <;> decide
theorem cd3_le (a b c : Bool) : cd3 a b c ≤ 3 := by cases a <;> cases b <;> cases c <;> decide
theorem hold_d {C : Nat} (h : C ≤ 3) : decide (0 < nI C) = decide (C ≠ 0) := decide_eq_decide.mpr (by
  rw [show (0 : Int32) = nI 0 from rfl, nI_ltI (by omega) (by omega)]; omega)
theorem LTB.fo {L : List Nat} {mb : Nat} {M M' : Mem} (h : LTB M mb) (g : fOut L mb M M') (hL : (!L.contains 16) = true) : LTB M' mb := by
  obtain ⟨lt, hl⟩ := h
  exact ⟨lt, fun k hk => by rw [g.i 16 (by rw [show decide (16 < 70) = true from rfl, hL]; rfl)]; exact hl k hk⟩
theorem LTB.wi {mb : Nat} {M : Mem} (h : LTB M mb) (k x : Nat) (v : Int32) (hk : (mrk.getD 16 0 == mrk.getD k 0) = false) : LTB (wI M (ma mb k) x v) mb := by
  obtain ⟨lt, hl⟩ := h
  exact ⟨lt, fun j hj => by rw [show mI (wI M (ma mb k) x v) (ma mb 16) j = mI M (ma mb 16) j from up2_a _ _ (ma_ne hk)]; exact hl j hj⟩
theorem LTB.ws {mb : Nat} {M : Mem} (h : LTB M mb) (k : Nat) (v : Int32) : LTB (wI M mb k v) mb := by
  obtain ⟨lt, hl⟩ := h
  exact ⟨lt, fun j hj => by rw [show mI (wI M mb k v) (ma mb 16) j = mI M (ma mb 16) j from up2_a _ _ (ma_0 rfl)]; exact hl j hj⟩
def sI (τ : Mu) (k x : Nat) (v : Int32) : Mu := (up2 τ.1 k x v, τ.2)
def sL (τ : Mu) (k x : Nat) (v : Int64) : Mu := (τ.1, up2 τ.2 k x v)
def KD (R v : Option Value) : Prop := match R with
  | some (.int _) => ∃ z : Int32, v = some (.int z)
  | some (.long _) => ∃ z : Int64, v = some (.long z)
  | _ => v = none
theorem KD.i {x z : Int32} : KD (some (.int x)) (some (.int z)) := ⟨z, rfl⟩
theorem KD.l {x z : Int64} : KD (some (.long x)) (some (.long z)) := ⟨z, rfl⟩
theorem KD.n : KD none none := rfl
/-- a public call: its code, what it answers if the code is 0, and what is told then -/
def PP (mb : Nat) (M : Mem) (τ : Mu) (C : Nat) (U : Mu) (R : Option Value) (v : Option Value) (M' : Mem) : Prop := mI M' mb 67 = nI C ∧ mOut mb M M' ∧ LTB M' mb ∧ (C ≠ 0 → TE (mI M') (mL M') mb τ ∧ TEb (mI M') (mL M') mb τ) ∧ (C = 0 → v = R ∧ TE (mI M') (mL M') mb U ∧ TEb (mI M') (mL M') mb U) ∧ KD R v

set_option maxHeartbeats 4000000 in
set_option maxRecDepth 100000 in
theorem c_X12_minutes (l : Launch) (hfl : l.flags = flags0) (G : gW) (M : Mem) (mb : Nat) (τ : Mu) (hm : MOK (mK M) (mN M) (mR M) mb) (ht : TE (mI M) (mL M) mb τ) (hw : WF τ) (htb : TEb (mI M) (mL M) mb τ) (hlb : LTB M mb) (x y : Int32) : CT l yX12_minutes cX12_minutes 3 (some .int) 2 0 0 47 G M [.ref mb, .int x, .int y] (fun v M' => PP mb M τ (cd1 (rng x (un τ 9 9) && rng y 720)) (τ) (some (.int (τ.1 8 (720 * x.toNatClampNeg + y.toNatClampNeg)))) v M') := by
  refine CT.of hfl rfl (Nat.le_of_ble_eq_true rfl) ?_
  intro pp ee ss mm ar bw mt cd C hgX hr hini
  have hnc := hw.nc.2
  have hsh := hw.sh.2
  have hnl := hw.nl.2
  have hne := hw.ne.2
  have hng := hw.ng.2
  have hop := hw.op.2
  have hnp := hw.np.2
  have ht0 := ht
  have hm0 := hm
  have htb0 := htb
  have hfo := fOut.rf [67] mb M
  refine V.eLo (lo' := [(0, .ref mb), (1, .int x), (2, .int y)]) rfl ?_
  refine r_aload_n C 0 dX12_minutes_0 rfl rfl ?_
  have jn22 : V pp l ee ({ frames := 2, cells := 0, slots := 0, locals := 47 } : Room) ss mm ar bw mt cd G (MQ bw (Ke G (fun v M' => PP mb M τ (cd1 (rng x (un τ 9 9) && rng y 720)) (τ) (some (.int (τ.1 8 (720 * x.toNatClampNeg + y.toNatClampNeg)))) v M')) ar ss 0 0 (gA G)) 3 M 0 0 22 [(0, .ref mb), (1, .int x), (2, .int y)] [.int (nI (cd1 (rng x (un τ 9 9) && rng y 720))), .ref mb] := by
    skip
    refine r_callV C hgX (ci := 14) ml_X12_227 im_X12_holds se_X12_holds rfl rfl hm.k (c_X12_holds l hfl G M mb hm (nI (cd1 (rng x (un τ 9 9) && rng y 720)))) rfl (Nat.le_of_ble_eq_true rfl) ⟨Nat.le_of_ble_eq_true rfl, Nat.le_of_ble_eq_true rfl⟩ ⟨Nat.le_of_ble_eq_true rfl, Nat.le_of_ble_eq_true rfl⟩ dX12_minutes_22 rfl ?_
    rintro _ _ ⟨rfl, rfl⟩
    refine V.eSt (st' := [.int (bI (decide (0 < nI (cd1 (rng x (un τ 9 9) && rng y 720)))))]) rfl ?_
    refine V.ei (y := bI (decide ((cd1 (rng x (un τ 9 9) && rng y 720)) ≠ 0))) (congrArg bI (hold_d (cd1_le _))) ?_
    have hfo := hfo.set0 67 (nI (cd1 (rng x (un τ 9 9) && rng y 720))) rfl
    have ht := ht.ws 67 (nI (cd1 (rng x (un τ 9 9) && rng y 720))) rfl rfl
    have htb := ((fOut.rf [67] mb _).set0 67 (nI (cd1 (rng x (un τ 9 9) && rng y 720))) rfl).tb rfl htb
    have h67 : mI (wI M mb 67 (nI (cd1 (rng x (un τ 9 9) && rng y 720)))) mb 67 = nI (cd1 (rng x (un τ 9 9) && rng y 720)) := up2_same _ _ _ _
    have hlb : LTB (wI M mb 67 (nI (cd1 (rng x (un τ 9 9) && rng y 720)))) mb := hlb.ws 67 _
    refine r_if_eqB C (t := 32) dX12_minutes_25 (by decide) (fun c25 => ?_) (fun c25 => ?_)
    · skip
      have c25d := of_decide_eq_false c25
      have hC : (cd1 (rng x (un τ 9 9) && rng y 720)) = 0 := by have := c25d; omega
      obtain ⟨hx, hy⟩ := Bool.and_eq_true_iff.mp (cd1_0 hC)
      obtain ⟨c, hc, e_x⟩ := rng_t hx
      obtain ⟨d, hd, e_y⟩ := rng_t hy
      refine V.eLo (lo' := [(0, .ref mb), (1, .int (nI c)), (2, .int (nI d))]) (by rw [e_x, e_y]) ?_
      refine r_aload_n C 0 dX12_minutes_32 rfl rfl ?_
      refine r_getR C (b := (ma mb 8)) fl_X12_34 rfl hm.k (hm.r 8 rfl) dX12_minutes_33 ?_
      refine r_sipush C (v := nI 720) dX12_minutes_36 (by decide) ?_
      refine r_iload_n C 1 dX12_minutes_39 rfl rfl ?_
      refine r_imulN C dX12_minutes_40 ?_
      refine r_iload_n C 2 dX12_minutes_41 rfl rfl ?_
      refine r_iaddN C dX12_minutes_42 ?_
      refine r_ialoadN C (hm.i 8 20 rfl) (hm.n 8 7200 rfl) (by omega) (by omega) dX12_minutes_43 ?_
      refine V.ei (y := τ.1 8 (720 * c + d)) (ht.i 8 rfl _) ?_
      exact r_iret C hr (⟨h67, hfo.mo, hlb, fun q => absurd hC q, fun _ => ⟨by rw [e_x, e_y, nI_clamp (n := c) (by omega), nI_clamp (n := d) (by omega)], ht, htb.cg rfl rfl (fun _ => ⟨rfl, rfl⟩) (fun _ => ⟨rfl, rfl⟩) (fun _ => ⟨rfl, rfl⟩) (fun _ => ⟨rfl, rfl⟩) (fun _ => ⟨rfl, rfl⟩) (fun _ => ⟨rfl, rfl⟩) (fun _ => ⟨rfl, rfl⟩) ⟩, by first | exact KD.i | exact KD.l | exact KD.n⟩) (by first | exact Nat.zero_le _ | decide) (by first | exact Nat.zero_le _ | decide) dX12_minutes_44
    · skip
      have c25d := of_decide_eq_true c25
      have hC : (cd1 (rng x (un τ 9 9) && rng y 720)) ≠ 0 := c25d
      refine r_iconst C (v := (-1)) dX12_minutes_28 (by decide) ?_
      refine r_goto C (t := 44) dX12_minutes_29 (by decide) ?_
      exact r_iret C hr (⟨h67, hfo.mo, hlb, fun _ => ⟨ht, htb⟩, fun q => absurd q hC, by first | exact KD.i | exact KD.l | exact KD.n⟩) (by first | exact Nat.zero_le _ | decide) (by first | exact Nat.zero_le _ | decide) dX12_minutes_44
  refine r_aload_n C 0 dX12_minutes_1 rfl rfl ?_
  refine r_iload_n C 1 dX12_minutes_2 rfl rfl ?_
  refine r_callV C hgX (ci := 14) ml_X12_204 im_X12_isContract se_X12_isContract rfl rfl hm.k (c_X12_isContract l hfl G M mb τ hm ht hw x) rfl (Nat.le_of_ble_eq_true rfl) ⟨Nat.le_of_ble_eq_true rfl, Nat.le_of_ble_eq_true rfl⟩ ⟨Nat.le_of_ble_eq_true rfl, Nat.le_of_ble_eq_true rfl⟩ dX12_minutes_3 rfl ?_
  rintro _ _ ⟨rfl, rfl⟩
  refine V.eSt (st' := [.int (bI (rng x (un τ 9 9))), .ref mb]) rfl ?_
  refine r_if_eqB C (t := 21) dX12_minutes_6 (by decide) (fun c6 => ?_) (fun c6 => ?_)
  · skip
    refine r_iconst C (v := nI 1) dX12_minutes_21 (by decide) ?_
    refine V.ei (y := nI (cd1 (rng x (un τ 9 9) && rng y 720))) (congrArg nI (by simp only [c6] <;> rfl)) ?_
    exact jn22
  · skip
    refine r_aload_n C 0 dX12_minutes_9 rfl rfl ?_
    refine r_iload_n C 2 dX12_minutes_10 rfl rfl ?_
    refine r_callV C hgX (ci := 14) ml_X12_218 im_X12_isDay se_X12_isDay rfl rfl hm.k (c_X12_isDay l hfl G M mb hm y) rfl (Nat.le_of_ble_eq_true rfl) ⟨Nat.le_of_ble_eq_true rfl, Nat.le_of_ble_eq_true rfl⟩ ⟨Nat.le_of_ble_eq_true rfl, Nat.le_of_ble_eq_true rfl⟩ dX12_minutes_11 rfl ?_
    rintro _ _ ⟨rfl, rfl⟩
    refine V.eSt (st' := [.int (bI (rng y 720)), .ref mb]) rfl ?_
    refine r_if_eqB C (t := 21) dX12_minutes_14 (by decide) (fun c14 => ?_) (fun c14 => ?_)
    · skip
      refine r_iconst C (v := nI 1) dX12_minutes_21 (by decide) ?_
      refine V.ei (y := nI (cd1 (rng x (un τ 9 9) && rng y 720))) (congrArg nI (by simp only [c6, c14] <;> rfl)) ?_
      exact jn22
    · skip
      refine r_iconst C (v := nI 0) dX12_minutes_17 (by decide) ?_
      refine r_goto C (t := 22) dX12_minutes_18 (by decide) ?_
      refine V.ei (y := nI (cd1 (rng x (un τ 9 9) && rng y 720))) (congrArg nI (by simp only [c6, c14] <;> rfl)) ?_
      exact jn22
set_option maxHeartbeats 4000000 in
set_option maxRecDepth 100000 in
theorem c_X12_overtime (l : Launch) (hfl : l.flags = flags0) (G : gW) (M : Mem) (mb : Nat) (τ : Mu) (hm : MOK (mK M) (mN M) (mR M) mb) (ht : TE (mI M) (mL M) mb τ) (hw : WF τ) (htb : TEb (mI M) (mL M) mb τ) (hlb : LTB M mb) (x y : Int32) : CT l yX12_overtime cX12_overtime 3 (some .int) 2 0 0 47 G M [.ref mb, .int x, .int y] (fun v M' => PP mb M τ (cd1 (rng x (un τ 9 9) && inB y (lN 0) (lN 102))) (τ) (some (.int (nI (overN τ x.toNatClampNeg y.toNatClampNeg)))) v M') := by
  refine CT.of hfl rfl (Nat.le_of_ble_eq_true rfl) ?_
  intro pp ee ss mm ar bw mt cd C hgX hr hini
  have hnc := hw.nc.2
  have hsh := hw.sh.2
  have hnl := hw.nl.2
  have hne := hw.ne.2
  have hng := hw.ng.2
  have hop := hw.op.2
  have hnp := hw.np.2
  have ht0 := ht
  have hm0 := hm
  have htb0 := htb
  have hfo := fOut.rf [67] mb M
  refine V.eLo (lo' := [(0, .ref mb), (1, .int x), (2, .int y)]) rfl ?_
  refine r_aload_n C 0 dX12_overtime_0 rfl rfl ?_
  have jn27 : V pp l ee ({ frames := 2, cells := 0, slots := 0, locals := 47 } : Room) ss mm ar bw mt cd G (MQ bw (Ke G (fun v M' => PP mb M τ (cd1 (rng x (un τ 9 9) && inB y (lN 0) (lN 102))) (τ) (some (.int (nI (overN τ x.toNatClampNeg y.toNatClampNeg)))) v M')) ar ss 0 0 (gA G)) 3 M 0 0 27 [(0, .ref mb), (1, .int x), (2, .int y)] [.int (nI (cd1 (rng x (un τ 9 9) && inB y (lN 0) (lN 102)))), .ref mb] := by
    skip
    refine r_callV C hgX (ci := 14) ml_X12_227 im_X12_holds se_X12_holds rfl rfl hm.k (c_X12_holds l hfl G M mb hm (nI (cd1 (rng x (un τ 9 9) && inB y (lN 0) (lN 102))))) rfl (Nat.le_of_ble_eq_true rfl) ⟨Nat.le_of_ble_eq_true rfl, Nat.le_of_ble_eq_true rfl⟩ ⟨Nat.le_of_ble_eq_true rfl, Nat.le_of_ble_eq_true rfl⟩ dX12_overtime_27 rfl ?_
    rintro _ _ ⟨rfl, rfl⟩
    refine V.eSt (st' := [.int (bI (decide (0 < nI (cd1 (rng x (un τ 9 9) && inB y (lN 0) (lN 102))))))]) rfl ?_
    refine V.ei (y := bI (decide ((cd1 (rng x (un τ 9 9) && inB y (lN 0) (lN 102))) ≠ 0))) (congrArg bI (hold_d (cd1_le _))) ?_
    have hfo := hfo.set0 67 (nI (cd1 (rng x (un τ 9 9) && inB y (lN 0) (lN 102)))) rfl
    have ht := ht.ws 67 (nI (cd1 (rng x (un τ 9 9) && inB y (lN 0) (lN 102)))) rfl rfl
    have htb := ((fOut.rf [67] mb _).set0 67 (nI (cd1 (rng x (un τ 9 9) && inB y (lN 0) (lN 102)))) rfl).tb rfl htb
    have h67 : mI (wI M mb 67 (nI (cd1 (rng x (un τ 9 9) && inB y (lN 0) (lN 102))))) mb 67 = nI (cd1 (rng x (un τ 9 9) && inB y (lN 0) (lN 102))) := up2_same _ _ _ _
    have hlb : LTB (wI M mb 67 (nI (cd1 (rng x (un τ 9 9) && inB y (lN 0) (lN 102))))) mb := hlb.ws 67 _
    refine r_if_eqB C (t := 37) dX12_overtime_30 (by decide) (fun c30 => ?_) (fun c30 => ?_)
    · skip
      have c30d := of_decide_eq_false c30
      have hC : (cd1 (rng x (un τ 9 9) && inB y (lN 0) (lN 102))) = 0 := by have := c30d; omega
      obtain ⟨hx, hy⟩ := Bool.and_eq_true_iff.mp (cd1_0 hC)
      obtain ⟨c, hc, e_x⟩ := rng_t hx
      obtain ⟨d, hd1, hd2, e_y⟩ := inB_N (by decide) (by decide) hy
      refine V.eLo (lo' := [(0, .ref mb), (1, .int (nI c)), (2, .int (nI d))]) (by rw [e_x, e_y]) ?_
      refine r_aload_n C 0 dX12_overtime_37 rfl rfl ?_
      refine r_iload_n C 1 dX12_overtime_38 rfl rfl ?_
      refine r_iload_n C 2 dX12_overtime_39 rfl rfl ?_
      refine r_callV C hgX (ci := 14) ml_X12_255 im_X12_over se_X12_over rfl rfl (show mK (wI M mb 67 (nI (cd1 (rng x (un τ 9 9) && inB y (lN 0) (lN 102))))) mb = 14 + 1 from hm.k) (c_X12_over l hfl G (wI M mb 67 (nI (cd1 (rng x (un τ 9 9) && inB y (lN 0) (lN 102))))) mb τ hm ht hw c d (by omega) (by omega)) rfl (Nat.le_of_ble_eq_true rfl) ⟨Nat.le_of_ble_eq_true rfl, Nat.le_of_ble_eq_true rfl⟩ ⟨Nat.le_of_ble_eq_true rfl, Nat.le_of_ble_eq_true rfl⟩ dX12_overtime_40 rfl ?_
      rintro _ _ ⟨rfl, rfl⟩
      refine V.eSt (st' := [.int (nI (overN τ c d))]) rfl ?_
      exact r_iret C hr (⟨h67, hfo.mo, hlb, fun q => absurd hC q, fun _ => ⟨by rw [e_x, e_y, nI_clamp (n := c) (by omega), nI_clamp (n := d) (by omega)], ht, htb.cg rfl rfl (fun _ => ⟨rfl, rfl⟩) (fun _ => ⟨rfl, rfl⟩) (fun _ => ⟨rfl, rfl⟩) (fun _ => ⟨rfl, rfl⟩) (fun _ => ⟨rfl, rfl⟩) (fun _ => ⟨rfl, rfl⟩) (fun _ => ⟨rfl, rfl⟩) ⟩, by first | exact KD.i | exact KD.l | exact KD.n⟩) (by first | exact Nat.zero_le _ | decide) (by first | exact Nat.zero_le _ | decide) dX12_overtime_43
    · skip
      have c30d := of_decide_eq_true c30
      have hC : (cd1 (rng x (un τ 9 9) && inB y (lN 0) (lN 102))) ≠ 0 := c30d
      refine r_iconst C (v := (-1)) dX12_overtime_33 (by decide) ?_
      refine r_goto C (t := 43) dX12_overtime_34 (by decide) ?_
      exact r_iret C hr (⟨h67, hfo.mo, hlb, fun _ => ⟨ht, htb⟩, fun q => absurd q hC, by first | exact KD.i | exact KD.l | exact KD.n⟩) (by first | exact Nat.zero_le _ | decide) (by first | exact Nat.zero_le _ | decide) dX12_overtime_43
  refine r_aload_n C 0 dX12_overtime_1 rfl rfl ?_
  refine r_iload_n C 1 dX12_overtime_2 rfl rfl ?_
  refine r_callV C hgX (ci := 14) ml_X12_204 im_X12_isContract se_X12_isContract rfl rfl hm.k (c_X12_isContract l hfl G M mb τ hm ht hw x) rfl (Nat.le_of_ble_eq_true rfl) ⟨Nat.le_of_ble_eq_true rfl, Nat.le_of_ble_eq_true rfl⟩ ⟨Nat.le_of_ble_eq_true rfl, Nat.le_of_ble_eq_true rfl⟩ dX12_overtime_3 rfl ?_
  rintro _ _ ⟨rfl, rfl⟩
  refine V.eSt (st' := [.int (bI (rng x (un τ 9 9))), .ref mb]) rfl ?_
  refine r_if_eqB C (t := 26) dX12_overtime_6 (by decide) (fun c6 => ?_) (fun c6 => ?_)
  · skip
    refine r_iconst C (v := nI 1) dX12_overtime_26 (by decide) ?_
    refine V.ei (y := nI (cd1 (rng x (un τ 9 9) && inB y (lN 0) (lN 102)))) (congrArg nI (by simp only [c6] <;> rfl)) ?_
    exact jn27
  · skip
    refine r_aload_n C 0 dX12_overtime_9 rfl rfl ?_
    refine r_iload_n C 2 dX12_overtime_10 rfl rfl ?_
    refine r_i2l C dX12_overtime_11 ?_
    refine r_lconst C (v := lN 0) dX12_overtime_12 (by decide) ?_
    refine r_ldc2 C (v := 102) kl_X12_253 dX12_overtime_13 ?_
    refine V.el (y := lN 102) (by decide) ?_
    refine r_callV C hgX (ci := 14) ml_X12_191 im_X12_in se_X12_in rfl rfl hm.k (c_X12_in l hfl G M mb y.toInt64 (lN 0) (lN 102)) rfl (Nat.le_of_ble_eq_true rfl) ⟨Nat.le_of_ble_eq_true rfl, Nat.le_of_ble_eq_true rfl⟩ ⟨Nat.le_of_ble_eq_true rfl, Nat.le_of_ble_eq_true rfl⟩ dX12_overtime_16 rfl ?_
    rintro _ _ ⟨rfl, rfl⟩
    refine V.eSt (st' := [.int (bI (decide ((lN 0) ≤ y.toInt64 ∧ y.toInt64 ≤ (lN 102)))), .ref mb]) rfl ?_
    refine V.ei (y := bI (inB y (lN 0) (lN 102))) rfl ?_
    refine r_if_eqB C (t := 26) dX12_overtime_19 (by decide) (fun c19 => ?_) (fun c19 => ?_)
    · skip
      refine r_iconst C (v := nI 1) dX12_overtime_26 (by decide) ?_
      refine V.ei (y := nI (cd1 (rng x (un τ 9 9) && inB y (lN 0) (lN 102)))) (congrArg nI (by simp only [c6, c19] <;> rfl)) ?_
      exact jn27
    · skip
      refine r_iconst C (v := nI 0) dX12_overtime_22 (by decide) ?_
      refine r_goto C (t := 27) dX12_overtime_23 (by decide) ?_
      refine V.ei (y := nI (cd1 (rng x (un τ 9 9) && inB y (lN 0) (lN 102)))) (congrArg nI (by simp only [c6, c19] <;> rfl)) ?_
      exact jn27
set_option maxHeartbeats 4000000 in
set_option maxRecDepth 100000 in
theorem c_X12_leaveRule (l : Launch) (hfl : l.flags = flags0) (G : gW) (M : Mem) (mb : Nat) (τ : Mu) (hm : MOK (mK M) (mN M) (mR M) mb) (ht : TE (mI M) (mL M) mb τ) (hw : WF τ) (htb : TEb (mI M) (mL M) mb τ) (hlb : LTB M mb) (x y z : Int32) : CT l yX12_leaveRule cX12_leaveRule 4 none 1 0 0 26 G M [.ref mb, .int x, .int y, .int z] (fun v M' => PP mb M τ (cd1 (inB x (lN 0) (lN 50) && inB y (lN 0) (lN 500) && inB z (lN 1) (lN 12))) (sI (sI (sI τ 18 18 x) 19 19 y) 20 20 z) (none) v M') := by
  refine CT.of hfl rfl (Nat.le_of_ble_eq_true rfl) ?_
  intro pp ee ss mm ar bw mt cd C hgX hr hini
  have hnc := hw.nc.2
  have hsh := hw.sh.2
  have hnl := hw.nl.2
  have hne := hw.ne.2
  have hng := hw.ng.2
  have hop := hw.op.2
  have hnp := hw.np.2
  have ht0 := ht
  have hm0 := hm
  have htb0 := htb
  have hfo := fOut.rf [67, 18, 19, 20] mb M
  refine V.eLo (lo' := [(0, .ref mb), (1, .int x), (2, .int y), (3, .int z)]) rfl ?_
  refine r_aload_n C 0 dX12_leaveRule_0 rfl rfl ?_
  have jn45 : V pp l ee ({ frames := 1, cells := 0, slots := 0, locals := 26 } : Room) ss mm ar bw mt cd G (MQ bw (Ke G (fun v M' => PP mb M τ (cd1 (inB x (lN 0) (lN 50) && inB y (lN 0) (lN 500) && inB z (lN 1) (lN 12))) (sI (sI (sI τ 18 18 x) 19 19 y) 20 20 z) (none) v M')) ar ss 0 0 (gA G)) 4 M 0 0 45 [(0, .ref mb), (1, .int x), (2, .int y), (3, .int z)] [.int (nI (cd1 (inB x (lN 0) (lN 50) && inB y (lN 0) (lN 500) && inB z (lN 1) (lN 12)))), .ref mb] := by
    skip
    refine r_callV C hgX (ci := 14) ml_X12_227 im_X12_holds se_X12_holds rfl rfl hm.k (c_X12_holds l hfl G M mb hm (nI (cd1 (inB x (lN 0) (lN 50) && inB y (lN 0) (lN 500) && inB z (lN 1) (lN 12))))) rfl (Nat.le_of_ble_eq_true rfl) ⟨Nat.le_of_ble_eq_true rfl, Nat.le_of_ble_eq_true rfl⟩ ⟨Nat.le_of_ble_eq_true rfl, Nat.le_of_ble_eq_true rfl⟩ dX12_leaveRule_45 rfl ?_
    rintro _ _ ⟨rfl, rfl⟩
    refine V.eSt (st' := [.int (bI (decide (0 < nI (cd1 (inB x (lN 0) (lN 50) && inB y (lN 0) (lN 500) && inB z (lN 1) (lN 12))))))]) rfl ?_
    refine V.ei (y := bI (decide ((cd1 (inB x (lN 0) (lN 50) && inB y (lN 0) (lN 500) && inB z (lN 1) (lN 12))) ≠ 0))) (congrArg bI (hold_d (cd1_le _))) ?_
    have hfo := hfo.set0 67 (nI (cd1 (inB x (lN 0) (lN 50) && inB y (lN 0) (lN 500) && inB z (lN 1) (lN 12)))) rfl
    have ht := ht.ws 67 (nI (cd1 (inB x (lN 0) (lN 50) && inB y (lN 0) (lN 500) && inB z (lN 1) (lN 12)))) rfl rfl
    have htb := ((fOut.rf [67] mb _).set0 67 (nI (cd1 (inB x (lN 0) (lN 50) && inB y (lN 0) (lN 500) && inB z (lN 1) (lN 12)))) rfl).tb rfl htb
    have h67 : mI (wI M mb 67 (nI (cd1 (inB x (lN 0) (lN 50) && inB y (lN 0) (lN 500) && inB z (lN 1) (lN 12))))) mb 67 = nI (cd1 (inB x (lN 0) (lN 50) && inB y (lN 0) (lN 500) && inB z (lN 1) (lN 12))) := up2_same _ _ _ _
    have hlb : LTB (wI M mb 67 (nI (cd1 (inB x (lN 0) (lN 50) && inB y (lN 0) (lN 500) && inB z (lN 1) (lN 12))))) mb := hlb.ws 67 _
    refine r_if_neB C (t := 66) dX12_leaveRule_48 (by decide) (fun c48 => ?_) (fun c48 => ?_)
    · skip
      have c48d := of_decide_eq_true c48
      have hC : (cd1 (inB x (lN 0) (lN 50) && inB y (lN 0) (lN 500) && inB z (lN 1) (lN 12))) ≠ 0 := c48d
      exact r_vret C hr (⟨h67, hfo.mo, hlb, fun _ => ⟨ht, htb⟩, fun q => absurd q hC, by first | exact KD.i | exact KD.l | exact KD.n⟩) (by first | exact Nat.zero_le _ | decide) (by first | exact Nat.zero_le _ | decide) dX12_leaveRule_66
    · skip
      have c48d := of_decide_eq_false c48
      have hC : (cd1 (inB x (lN 0) (lN 50) && inB y (lN 0) (lN 500) && inB z (lN 1) (lN 12))) = 0 := by have := c48d; omega
      refine r_aload_n C 0 dX12_leaveRule_51 rfl rfl ?_
      refine r_iload_n C 1 dX12_leaveRule_52 rfl rfl ?_
      refine r_putI C fl_X12_290 hm.k dX12_leaveRule_53 ?_
      have htb := ((fOut.rf [18] mb _).set0 18 x rfl).tb rfl htb
      have hlb : LTB (wI (wI M mb 67 (nI (cd1 (inB x (lN 0) (lN 50) && inB y (lN 0) (lN 500) && inB z (lN 1) (lN 12))))) mb 18 x) mb := hlb.ws 18 _
      have hfo := hfo.set0 18 x rfl
      have h67 : mI (wI (wI M mb 67 (nI (cd1 (inB x (lN 0) (lN 50) && inB y (lN 0) (lN 500) && inB z (lN 1) (lN 12))))) mb 18 x) mb 67 = _ := (up2_k _ _ (by decide)).trans h67
      have ht := ht.us 18 x rfl
      refine r_aload_n C 0 dX12_leaveRule_56 rfl rfl ?_
      refine r_iload_n C 2 dX12_leaveRule_57 rfl rfl ?_
      refine r_putI C fl_X12_293 hm.k dX12_leaveRule_58 ?_
      have htb := ((fOut.rf [19] mb _).set0 19 y rfl).tb rfl htb
      have hlb : LTB (wI (wI (wI M mb 67 (nI (cd1 (inB x (lN 0) (lN 50) && inB y (lN 0) (lN 500) && inB z (lN 1) (lN 12))))) mb 18 x) mb 19 y) mb := hlb.ws 19 _
      have hfo := hfo.set0 19 y rfl
      have h67 : mI (wI (wI (wI M mb 67 (nI (cd1 (inB x (lN 0) (lN 50) && inB y (lN 0) (lN 500) && inB z (lN 1) (lN 12))))) mb 18 x) mb 19 y) mb 67 = _ := (up2_k _ _ (by decide)).trans h67
      have ht := ht.us 19 y rfl
      refine r_aload_n C 0 dX12_leaveRule_61 rfl rfl ?_
      refine r_iload_n C 3 dX12_leaveRule_62 rfl rfl ?_
      refine r_putI C fl_X12_296 hm.k dX12_leaveRule_63 ?_
      have htb := ((fOut.rf [20] mb _).set0 20 z rfl).tb rfl htb
      have hlb : LTB (wI (wI (wI (wI M mb 67 (nI (cd1 (inB x (lN 0) (lN 50) && inB y (lN 0) (lN 500) && inB z (lN 1) (lN 12))))) mb 18 x) mb 19 y) mb 20 z) mb := hlb.ws 20 _
      have hfo := hfo.set0 20 z rfl
      have h67 : mI (wI (wI (wI (wI M mb 67 (nI (cd1 (inB x (lN 0) (lN 50) && inB y (lN 0) (lN 500) && inB z (lN 1) (lN 12))))) mb 18 x) mb 19 y) mb 20 z) mb 67 = _ := (up2_k _ _ (by decide)).trans h67
      have ht := ht.us 20 z rfl
      exact r_vret C hr (⟨h67, hfo.mo, hlb, fun q => absurd hC q, fun _ => ⟨rfl, ht, htb.cg rfl rfl (fun _ => ⟨rfl, rfl⟩) (fun _ => ⟨rfl, rfl⟩) (fun _ => ⟨rfl, rfl⟩) (fun _ => ⟨rfl, rfl⟩) (fun _ => ⟨rfl, rfl⟩) (fun _ => ⟨rfl, rfl⟩) (fun _ => ⟨rfl, rfl⟩) ⟩, by first | exact KD.i | exact KD.l | exact KD.n⟩) (by first | exact Nat.zero_le _ | decide) (by first | exact Nat.zero_le _ | decide) dX12_leaveRule_66
  refine r_aload_n C 0 dX12_leaveRule_1 rfl rfl ?_
  refine r_iload_n C 1 dX12_leaveRule_2 rfl rfl ?_
  refine r_i2l C dX12_leaveRule_3 ?_
  refine r_lconst C (v := lN 0) dX12_leaveRule_4 (by decide) ?_
  refine r_ldc2 C (v := 50) kl_X12_284 dX12_leaveRule_5 ?_
  refine V.el (y := lN 50) (by decide) ?_
  refine r_callV C hgX (ci := 14) ml_X12_191 im_X12_in se_X12_in rfl rfl hm.k (c_X12_in l hfl G M mb x.toInt64 (lN 0) (lN 50)) rfl (Nat.le_of_ble_eq_true rfl) ⟨Nat.le_of_ble_eq_true rfl, Nat.le_of_ble_eq_true rfl⟩ ⟨Nat.le_of_ble_eq_true rfl, Nat.le_of_ble_eq_true rfl⟩ dX12_leaveRule_8 rfl ?_
  rintro _ _ ⟨rfl, rfl⟩
  refine V.eSt (st' := [.int (bI (decide ((lN 0) ≤ x.toInt64 ∧ x.toInt64 ≤ (lN 50)))), .ref mb]) rfl ?_
  refine V.ei (y := bI (inB x (lN 0) (lN 50))) rfl ?_
  refine r_if_eqB C (t := 44) dX12_leaveRule_11 (by decide) (fun c11 => ?_) (fun c11 => ?_)
  · skip
    refine r_iconst C (v := nI 1) dX12_leaveRule_44 (by decide) ?_
    refine V.ei (y := nI (cd1 (inB x (lN 0) (lN 50) && inB y (lN 0) (lN 500) && inB z (lN 1) (lN 12)))) (congrArg nI (by simp only [c11] <;> rfl)) ?_
    exact jn45
  · skip
    refine r_aload_n C 0 dX12_leaveRule_14 rfl rfl ?_
    refine r_iload_n C 2 dX12_leaveRule_15 rfl rfl ?_
    refine r_i2l C dX12_leaveRule_16 ?_
    refine r_lconst C (v := lN 0) dX12_leaveRule_17 (by decide) ?_
    refine r_ldc2 C (v := 500) kl_X12_286 dX12_leaveRule_18 ?_
    refine V.el (y := lN 500) (by decide) ?_
    refine r_callV C hgX (ci := 14) ml_X12_191 im_X12_in se_X12_in rfl rfl hm.k (c_X12_in l hfl G M mb y.toInt64 (lN 0) (lN 500)) rfl (Nat.le_of_ble_eq_true rfl) ⟨Nat.le_of_ble_eq_true rfl, Nat.le_of_ble_eq_true rfl⟩ ⟨Nat.le_of_ble_eq_true rfl, Nat.le_of_ble_eq_true rfl⟩ dX12_leaveRule_21 rfl ?_
    rintro _ _ ⟨rfl, rfl⟩
    refine V.eSt (st' := [.int (bI (decide ((lN 0) ≤ y.toInt64 ∧ y.toInt64 ≤ (lN 500)))), .ref mb]) rfl ?_
    refine V.ei (y := bI (inB y (lN 0) (lN 500))) rfl ?_
    refine r_if_eqB C (t := 44) dX12_leaveRule_24 (by decide) (fun c24 => ?_) (fun c24 => ?_)
    · skip
      refine r_iconst C (v := nI 1) dX12_leaveRule_44 (by decide) ?_
      refine V.ei (y := nI (cd1 (inB x (lN 0) (lN 50) && inB y (lN 0) (lN 500) && inB z (lN 1) (lN 12)))) (congrArg nI (by simp only [c11, c24] <;> rfl)) ?_
      exact jn45
    · skip
      refine r_aload_n C 0 dX12_leaveRule_27 rfl rfl ?_
      refine r_iload_n C 3 dX12_leaveRule_28 rfl rfl ?_
      refine r_i2l C dX12_leaveRule_29 ?_
      refine r_lconst C (v := lN 1) dX12_leaveRule_30 (by decide) ?_
      refine r_ldc2 C (v := 12) kl_X12_288 dX12_leaveRule_31 ?_
      refine V.el (y := lN 12) (by decide) ?_
      refine r_callV C hgX (ci := 14) ml_X12_191 im_X12_in se_X12_in rfl rfl hm.k (c_X12_in l hfl G M mb z.toInt64 (lN 1) (lN 12)) rfl (Nat.le_of_ble_eq_true rfl) ⟨Nat.le_of_ble_eq_true rfl, Nat.le_of_ble_eq_true rfl⟩ ⟨Nat.le_of_ble_eq_true rfl, Nat.le_of_ble_eq_true rfl⟩ dX12_leaveRule_34 rfl ?_
      rintro _ _ ⟨rfl, rfl⟩
      refine V.eSt (st' := [.int (bI (decide ((lN 1) ≤ z.toInt64 ∧ z.toInt64 ≤ (lN 12)))), .ref mb]) rfl ?_
      refine V.ei (y := bI (inB z (lN 1) (lN 12))) rfl ?_
      refine r_if_eqB C (t := 44) dX12_leaveRule_37 (by decide) (fun c37 => ?_) (fun c37 => ?_)
      · skip
        refine r_iconst C (v := nI 1) dX12_leaveRule_44 (by decide) ?_
        refine V.ei (y := nI (cd1 (inB x (lN 0) (lN 50) && inB y (lN 0) (lN 500) && inB z (lN 1) (lN 12)))) (congrArg nI (by simp only [c11, c24, c37] <;> rfl)) ?_
        exact jn45
      · skip
        refine r_iconst C (v := nI 0) dX12_leaveRule_40 (by decide) ?_
        refine r_goto C (t := 45) dX12_leaveRule_41 (by decide) ?_
        refine V.ei (y := nI (cd1 (inB x (lN 0) (lN 50) && inB y (lN 0) (lN 500) && inB z (lN 1) (lN 12)))) (congrArg nI (by simp only [c11, c24, c37] <;> rfl)) ?_
        exact jn45
set_option maxHeartbeats 4000000 in
set_option maxRecDepth 100000 in
theorem c_X12_leaveLeft (l : Launch) (hfl : l.flags = flags0) (G : gW) (M : Mem) (mb : Nat) (τ : Mu) (hm : MOK (mK M) (mN M) (mR M) mb) (ht : TE (mI M) (mL M) mb τ) (hw : WF τ) (htb : TEb (mI M) (mL M) mb τ) (hlb : LTB M mb) (x y : Int32) : CT l yX12_leaveLeft cX12_leaveLeft 3 (some .int) 3 0 0 77 G M [.ref mb, .int x, .int y] (fun v M' => PP mb M τ (cd1 (rng x 6 && rng y 720)) (τ) (some (.int (nI (leftN τ x.toNatClampNeg y.toNatClampNeg)))) v M') := by
  refine CT.of hfl rfl (Nat.le_of_ble_eq_true rfl) ?_
  intro pp ee ss mm ar bw mt cd C hgX hr hini
  have hnc := hw.nc.2
  have hsh := hw.sh.2
  have hnl := hw.nl.2
  have hne := hw.ne.2
  have hng := hw.ng.2
  have hop := hw.op.2
  have hnp := hw.np.2
  have ht0 := ht
  have hm0 := hm
  have htb0 := htb
  have hfo := fOut.rf [67, 16, 21] mb M
  refine V.eLo (lo' := [(0, .ref mb), (1, .int x), (2, .int y)]) rfl ?_
  refine r_aload_n C 0 dX12_leaveLeft_0 rfl rfl ?_
  have jn22 : V pp l ee ({ frames := 3, cells := 0, slots := 0, locals := 77 } : Room) ss mm ar bw mt cd G (MQ bw (Ke G (fun v M' => PP mb M τ (cd1 (rng x 6 && rng y 720)) (τ) (some (.int (nI (leftN τ x.toNatClampNeg y.toNatClampNeg)))) v M')) ar ss 0 0 (gA G)) 3 M 0 0 22 [(0, .ref mb), (1, .int x), (2, .int y)] [.int (nI (cd1 (rng x 6 && rng y 720))), .ref mb] := by
    skip
    refine r_callV C hgX (ci := 14) ml_X12_227 im_X12_holds se_X12_holds rfl rfl hm.k (c_X12_holds l hfl G M mb hm (nI (cd1 (rng x 6 && rng y 720)))) rfl (Nat.le_of_ble_eq_true rfl) ⟨Nat.le_of_ble_eq_true rfl, Nat.le_of_ble_eq_true rfl⟩ ⟨Nat.le_of_ble_eq_true rfl, Nat.le_of_ble_eq_true rfl⟩ dX12_leaveLeft_22 rfl ?_
    rintro _ _ ⟨rfl, rfl⟩
    refine V.eSt (st' := [.int (bI (decide (0 < nI (cd1 (rng x 6 && rng y 720)))))]) rfl ?_
    refine V.ei (y := bI (decide ((cd1 (rng x 6 && rng y 720)) ≠ 0))) (congrArg bI (hold_d (cd1_le _))) ?_
    have hfo := hfo.set0 67 (nI (cd1 (rng x 6 && rng y 720))) rfl
    have ht := ht.ws 67 (nI (cd1 (rng x 6 && rng y 720))) rfl rfl
    have htb := ((fOut.rf [67] mb _).set0 67 (nI (cd1 (rng x 6 && rng y 720))) rfl).tb rfl htb
    have h67 : mI (wI M mb 67 (nI (cd1 (rng x 6 && rng y 720)))) mb 67 = nI (cd1 (rng x 6 && rng y 720)) := up2_same _ _ _ _
    have hlb : LTB (wI M mb 67 (nI (cd1 (rng x 6 && rng y 720)))) mb := hlb.ws 67 _
    refine r_if_eqB C (t := 30) dX12_leaveLeft_25 (by decide) (fun c25 => ?_) (fun c25 => ?_)
    · skip
      have c25d := of_decide_eq_false c25
      have hC : (cd1 (rng x 6 && rng y 720)) = 0 := by have := c25d; omega
      obtain ⟨hx, hy⟩ := Bool.and_eq_true_iff.mp (cd1_0 hC)
      obtain ⟨c, hc, e_x⟩ := rng_t hx
      obtain ⟨d, hd, e_y⟩ := rng_t hy
      refine V.eLo (lo' := [(0, .ref mb), (1, .int (nI c)), (2, .int (nI d))]) (by rw [e_x, e_y]) ?_
      refine r_aload_n C 0 dX12_leaveLeft_30 rfl rfl ?_
      refine r_iload_n C 1 dX12_leaveLeft_31 rfl rfl ?_
      refine r_iload_n C 2 dX12_leaveLeft_32 rfl rfl ?_
      refine r_callV C hgX (ci := 14) ml_X12_277 im_X12_takes se_X12_takes rfl rfl (show mK (wI M mb 67 (nI (cd1 (rng x 6 && rng y 720)))) mb = 14 + 1 from hm.k) (c_X12_takes l hfl G (wI M mb 67 (nI (cd1 (rng x 6 && rng y 720)))) mb τ hm ht hw c d (by omega) (by omega)) rfl (Nat.le_of_ble_eq_true rfl) ⟨Nat.le_of_ble_eq_true rfl, Nat.le_of_ble_eq_true rfl⟩ ⟨Nat.le_of_ble_eq_true rfl, Nat.le_of_ble_eq_true rfl⟩ dX12_leaveLeft_33 rfl ?_
      rintro _ My1 ⟨rfl, hfo1, htk1, htl1, hlf1⟩
      have hm := hfo1.ok hm
      have ht := hfo1.te rfl ht
      have htb := hfo1.tb rfl htb
      obtain ⟨lt, hlt, hlp⟩ := sl_lt hnl hlb htk1 htl1
      have hlb : LTB My1 mb := ⟨lt, hlt⟩
      have h67 := (hfo1.s 67 rfl).trans h67
      have hfo := hfo.tr (hfo1.mono rfl)
      have hv := hlf1 hd
      refine r_aload_n C 0 dX12_leaveLeft_36 rfl rfl ?_
      refine r_getI C fl_X12_302 rfl hm.k dX12_leaveLeft_37 ?_
      refine V.ei (y := nI (leftN τ c d)) (hv) ?_
      exact r_iret C hr (⟨h67, hfo.mo, hlb, fun q => absurd hC q, fun _ => ⟨by rw [e_x, e_y, nI_clamp (n := c) (by omega), nI_clamp (n := d) (by omega)], ht, htb.cg rfl rfl (fun _ => ⟨rfl, rfl⟩) (fun _ => ⟨rfl, rfl⟩) (fun _ => ⟨rfl, rfl⟩) (fun _ => ⟨rfl, rfl⟩) (fun _ => ⟨rfl, rfl⟩) (fun _ => ⟨rfl, rfl⟩) (fun _ => ⟨rfl, rfl⟩) ⟩, by first | exact KD.i | exact KD.l | exact KD.n⟩) (by first | exact Nat.zero_le _ | decide) (by first | exact Nat.zero_le _ | decide) dX12_leaveLeft_40
    · skip
      have c25d := of_decide_eq_true c25
      have hC : (cd1 (rng x 6 && rng y 720)) ≠ 0 := c25d
      refine r_iconst C (v := (-1)) dX12_leaveLeft_28 (by decide) ?_
      exact r_iret C hr (⟨h67, hfo.mo, hlb, fun _ => ⟨ht, htb⟩, fun q => absurd q hC, by first | exact KD.i | exact KD.l | exact KD.n⟩) (by first | exact Nat.zero_le _ | decide) (by first | exact Nat.zero_le _ | decide) dX12_leaveLeft_29
  refine r_aload_n C 0 dX12_leaveLeft_1 rfl rfl ?_
  refine r_iload_n C 1 dX12_leaveLeft_2 rfl rfl ?_
  refine r_callV C hgX (ci := 14) ml_X12_212 im_X12_isPerson se_X12_isPerson rfl rfl hm.k (c_X12_isPerson l hfl G M mb hm x) rfl (Nat.le_of_ble_eq_true rfl) ⟨Nat.le_of_ble_eq_true rfl, Nat.le_of_ble_eq_true rfl⟩ ⟨Nat.le_of_ble_eq_true rfl, Nat.le_of_ble_eq_true rfl⟩ dX12_leaveLeft_3 rfl ?_
  rintro _ _ ⟨rfl, rfl⟩
  refine V.eSt (st' := [.int (bI (rng x 6)), .ref mb]) rfl ?_
  refine r_if_eqB C (t := 21) dX12_leaveLeft_6 (by decide) (fun c6 => ?_) (fun c6 => ?_)
  · skip
    refine r_iconst C (v := nI 1) dX12_leaveLeft_21 (by decide) ?_
    refine V.ei (y := nI (cd1 (rng x 6 && rng y 720))) (congrArg nI (by simp only [c6] <;> rfl)) ?_
    exact jn22
  · skip
    refine r_aload_n C 0 dX12_leaveLeft_9 rfl rfl ?_
    refine r_iload_n C 2 dX12_leaveLeft_10 rfl rfl ?_
    refine r_callV C hgX (ci := 14) ml_X12_218 im_X12_isDay se_X12_isDay rfl rfl hm.k (c_X12_isDay l hfl G M mb hm y) rfl (Nat.le_of_ble_eq_true rfl) ⟨Nat.le_of_ble_eq_true rfl, Nat.le_of_ble_eq_true rfl⟩ ⟨Nat.le_of_ble_eq_true rfl, Nat.le_of_ble_eq_true rfl⟩ dX12_leaveLeft_11 rfl ?_
    rintro _ _ ⟨rfl, rfl⟩
    refine V.eSt (st' := [.int (bI (rng y 720)), .ref mb]) rfl ?_
    refine r_if_eqB C (t := 21) dX12_leaveLeft_14 (by decide) (fun c14 => ?_) (fun c14 => ?_)
    · skip
      refine r_iconst C (v := nI 1) dX12_leaveLeft_21 (by decide) ?_
      refine V.ei (y := nI (cd1 (rng x 6 && rng y 720))) (congrArg nI (by simp only [c6, c14] <;> rfl)) ?_
      exact jn22
    · skip
      refine r_iconst C (v := nI 0) dX12_leaveLeft_17 (by decide) ?_
      refine r_goto C (t := 22) dX12_leaveLeft_18 (by decide) ?_
      refine V.ei (y := nI (cd1 (rng x 6 && rng y 720))) (congrArg nI (by simp only [c6, c14] <;> rfl)) ?_
      exact jn22
set_option maxHeartbeats 4000000 in
set_option maxRecDepth 100000 in
theorem c_X12_base (l : Launch) (hfl : l.flags = flags0) (G : gW) (M : Mem) (mb : Nat) (τ : Mu) (hm : MOK (mK M) (mN M) (mR M) mb) (ht : TE (mI M) (mL M) mb τ) (hw : WF τ) (htb : TEb (mI M) (mL M) mb τ) (hlb : LTB M mb) (x y : Int32) : CT l yX12_base cX12_base 3 (some .long) 4 0 0 103 G M [.ref mb, .int x, .int y] (fun v M' => PP mb M τ (cd1 (rng x (un τ 9 9) && rng y 24)) (τ) (some (.long (lN (baseN τ (ltN τ) x.toNatClampNeg y.toNatClampNeg)))) v M') := by
  refine CT.of hfl rfl (Nat.le_of_ble_eq_true rfl) ?_
  intro pp ee ss mm ar bw mt cd C hgX hr hini
  have hnc := hw.nc.2
  have hsh := hw.sh.2
  have hnl := hw.nl.2
  have hne := hw.ne.2
  have hng := hw.ng.2
  have hop := hw.op.2
  have hnp := hw.np.2
  have ht0 := ht
  have hm0 := hm
  have htb0 := htb
  have hfo := fOut.rf [67, 16, 21] mb M
  refine V.eLo (lo' := [(0, .ref mb), (1, .int x), (2, .int y)]) rfl ?_
  refine r_aload_n C 0 dX12_base_0 rfl rfl ?_
  have jn22 : V pp l ee ({ frames := 4, cells := 0, slots := 0, locals := 103 } : Room) ss mm ar bw mt cd G (MQ bw (Ke G (fun v M' => PP mb M τ (cd1 (rng x (un τ 9 9) && rng y 24)) (τ) (some (.long (lN (baseN τ (ltN τ) x.toNatClampNeg y.toNatClampNeg)))) v M')) ar ss 0 0 (gA G)) 3 M 0 0 22 [(0, .ref mb), (1, .int x), (2, .int y)] [.int (nI (cd1 (rng x (un τ 9 9) && rng y 24))), .ref mb] := by
    skip
    refine r_callV C hgX (ci := 14) ml_X12_227 im_X12_holds se_X12_holds rfl rfl hm.k (c_X12_holds l hfl G M mb hm (nI (cd1 (rng x (un τ 9 9) && rng y 24)))) rfl (Nat.le_of_ble_eq_true rfl) ⟨Nat.le_of_ble_eq_true rfl, Nat.le_of_ble_eq_true rfl⟩ ⟨Nat.le_of_ble_eq_true rfl, Nat.le_of_ble_eq_true rfl⟩ dX12_base_22 rfl ?_
    rintro _ _ ⟨rfl, rfl⟩
    refine V.eSt (st' := [.int (bI (decide (0 < nI (cd1 (rng x (un τ 9 9) && rng y 24)))))]) rfl ?_
    refine V.ei (y := bI (decide ((cd1 (rng x (un τ 9 9) && rng y 24)) ≠ 0))) (congrArg bI (hold_d (cd1_le _))) ?_
    have hfo := hfo.set0 67 (nI (cd1 (rng x (un τ 9 9) && rng y 24))) rfl
    have ht := ht.ws 67 (nI (cd1 (rng x (un τ 9 9) && rng y 24))) rfl rfl
    have htb := ((fOut.rf [67] mb _).set0 67 (nI (cd1 (rng x (un τ 9 9) && rng y 24))) rfl).tb rfl htb
    have h67 : mI (wI M mb 67 (nI (cd1 (rng x (un τ 9 9) && rng y 24)))) mb 67 = nI (cd1 (rng x (un τ 9 9) && rng y 24)) := up2_same _ _ _ _
    have hlb : LTB (wI M mb 67 (nI (cd1 (rng x (un τ 9 9) && rng y 24)))) mb := hlb.ws 67 _
    refine r_if_eqB C (t := 32) dX12_base_25 (by decide) (fun c25 => ?_) (fun c25 => ?_)
    · skip
      have c25d := of_decide_eq_false c25
      have hC : (cd1 (rng x (un τ 9 9) && rng y 24)) = 0 := by have := c25d; omega
      obtain ⟨hx, hy⟩ := Bool.and_eq_true_iff.mp (cd1_0 hC)
      obtain ⟨c, hc, e_x⟩ := rng_t hx
      obtain ⟨d, hd, e_y⟩ := rng_t hy
      refine V.eLo (lo' := [(0, .ref mb), (1, .int (nI c)), (2, .int (nI d))]) (by rw [e_x, e_y]) ?_
      refine r_aload_n C 0 dX12_base_32 rfl rfl ?_
      refine r_aload_n C 0 dX12_base_33 rfl rfl ?_
      refine r_getR C (b := (ma mb 0)) fl_X12_7 rfl hm.k (hm.r 0 rfl) dX12_base_34 ?_
      refine r_iload_n C 1 dX12_base_37 rfl rfl ?_
      refine r_ialoadN C (hm.i 0 20 rfl) (hm.n 0 10 rfl) (by omega) (by omega) dX12_base_38 ?_
      refine V.ei (y := nI (un τ 0 c)) ((ht.i 0 rfl _).trans (hw.cw c (by omega)).1) ?_
      have hb0 := (hw.cw c (by omega)).2
      refine r_sipush C (v := nI 720) dX12_base_39 (by decide) ?_
      refine r_callV C hgX (ci := 14) ml_X12_277 im_X12_takes se_X12_takes rfl rfl (show mK (wI M mb 67 (nI (cd1 (rng x (un τ 9 9) && rng y 24)))) mb = 14 + 1 from hm.k) (c_X12_takes l hfl G (wI M mb 67 (nI (cd1 (rng x (un τ 9 9) && rng y 24)))) mb τ hm ht hw (un τ 0 c) 720 (by omega) (by omega)) rfl (Nat.le_of_ble_eq_true rfl) ⟨Nat.le_of_ble_eq_true rfl, Nat.le_of_ble_eq_true rfl⟩ ⟨Nat.le_of_ble_eq_true rfl, Nat.le_of_ble_eq_true rfl⟩ dX12_base_42 rfl ?_
      rintro _ My2 ⟨rfl, hfo2, htk2, htl2, hlf2⟩
      have hm := hfo2.ok hm
      have ht := hfo2.te rfl ht
      have htb := hfo2.tb rfl htb
      obtain ⟨lt, hlt, hlp⟩ := sl_lt hnl hlb htk2 htl2
      have hlb : LTB My2 mb := ⟨lt, hlt⟩
      have h67 := (hfo2.s 67 rfl).trans h67
      have hfo := hfo.tr (hfo2.mono rfl)
      refine r_aload_n C 0 dX12_base_45 rfl rfl ?_
      refine r_iload_n C 1 dX12_base_46 rfl rfl ?_
      refine r_iload_n C 2 dX12_base_47 rfl rfl ?_
      refine r_callV C hgX (ci := 14) ml_X12_281 im_X12_baseOf se_X12_baseOf rfl rfl hm.k (c_X12_baseOf l hfl G My2 mb τ hm ht hw c d lt (by omega) (by omega) (fun k hk => hlt k (by omega))) rfl (Nat.le_of_ble_eq_true rfl) ⟨Nat.le_of_ble_eq_true rfl, Nat.le_of_ble_eq_true rfl⟩ ⟨Nat.le_of_ble_eq_true rfl, Nat.le_of_ble_eq_true rfl⟩ dX12_base_48 rfl ?_
      rintro _ _ ⟨rfl, rfl⟩
      refine V.eSt (st' := [.long (lN (baseN τ lt c d))]) rfl ?_
      refine V.el (y := lN (baseN τ (ltN τ) c d)) (congrArg lN (baseN_cg (fun k hk q => hlp k hk (by rw [q])))) ?_
      exact r_lret C hr (⟨h67, hfo.mo, hlb, fun q => absurd hC q, fun _ => ⟨by rw [e_x, e_y, nI_clamp (n := c) (by omega), nI_clamp (n := d) (by omega)], ht, htb.cg rfl rfl (fun _ => ⟨rfl, rfl⟩) (fun _ => ⟨rfl, rfl⟩) (fun _ => ⟨rfl, rfl⟩) (fun _ => ⟨rfl, rfl⟩) (fun _ => ⟨rfl, rfl⟩) (fun _ => ⟨rfl, rfl⟩) (fun _ => ⟨rfl, rfl⟩) ⟩, by first | exact KD.i | exact KD.l | exact KD.n⟩) (by first | exact Nat.zero_le _ | decide) (by first | exact Nat.zero_le _ | decide) dX12_base_51
    · skip
      have c25d := of_decide_eq_true c25
      have hC : (cd1 (rng x (un τ 9 9) && rng y 24)) ≠ 0 := c25d
      refine r_ldc2 C (v := (-1)) kl_X12_275 dX12_base_28 ?_
      exact r_lret C hr (⟨h67, hfo.mo, hlb, fun _ => ⟨ht, htb⟩, fun q => absurd q hC, by first | exact KD.i | exact KD.l | exact KD.n⟩) (by first | exact Nat.zero_le _ | decide) (by first | exact Nat.zero_le _ | decide) dX12_base_31
  refine r_aload_n C 0 dX12_base_1 rfl rfl ?_
  refine r_iload_n C 1 dX12_base_2 rfl rfl ?_
  refine r_callV C hgX (ci := 14) ml_X12_204 im_X12_isContract se_X12_isContract rfl rfl hm.k (c_X12_isContract l hfl G M mb τ hm ht hw x) rfl (Nat.le_of_ble_eq_true rfl) ⟨Nat.le_of_ble_eq_true rfl, Nat.le_of_ble_eq_true rfl⟩ ⟨Nat.le_of_ble_eq_true rfl, Nat.le_of_ble_eq_true rfl⟩ dX12_base_3 rfl ?_
  rintro _ _ ⟨rfl, rfl⟩
  refine V.eSt (st' := [.int (bI (rng x (un τ 9 9))), .ref mb]) rfl ?_
  refine r_if_eqB C (t := 21) dX12_base_6 (by decide) (fun c6 => ?_) (fun c6 => ?_)
  · skip
    refine r_iconst C (v := nI 1) dX12_base_21 (by decide) ?_
    refine V.ei (y := nI (cd1 (rng x (un τ 9 9) && rng y 24))) (congrArg nI (by simp only [c6] <;> rfl)) ?_
    exact jn22
  · skip
    refine r_aload_n C 0 dX12_base_9 rfl rfl ?_
    refine r_iload_n C 2 dX12_base_10 rfl rfl ?_
    refine r_callV C hgX (ci := 14) ml_X12_272 im_X12_isMonth se_X12_isMonth rfl rfl hm.k (c_X12_isMonth l hfl G M mb hm y) rfl (Nat.le_of_ble_eq_true rfl) ⟨Nat.le_of_ble_eq_true rfl, Nat.le_of_ble_eq_true rfl⟩ ⟨Nat.le_of_ble_eq_true rfl, Nat.le_of_ble_eq_true rfl⟩ dX12_base_11 rfl ?_
    rintro _ _ ⟨rfl, rfl⟩
    refine V.eSt (st' := [.int (bI (rng y 24)), .ref mb]) rfl ?_
    refine r_if_eqB C (t := 21) dX12_base_14 (by decide) (fun c14 => ?_) (fun c14 => ?_)
    · skip
      refine r_iconst C (v := nI 1) dX12_base_21 (by decide) ?_
      refine V.ei (y := nI (cd1 (rng x (un τ 9 9) && rng y 24))) (congrArg nI (by simp only [c6, c14] <;> rfl)) ?_
      exact jn22
    · skip
      refine r_iconst C (v := nI 0) dX12_base_17 (by decide) ?_
      refine r_goto C (t := 22) dX12_base_18 (by decide) ?_
      refine V.ei (y := nI (cd1 (rng x (un τ 9 9) && rng y 24))) (congrArg nI (by simp only [c6, c14] <;> rfl)) ?_
      exact jn22
set_option maxHeartbeats 4000000 in
set_option maxRecDepth 100000 in
theorem c_X12_pay (l : Launch) (hfl : l.flags = flags0) (G : gW) (M : Mem) (mb : Nat) (τ : Mu) (hm : MOK (mK M) (mN M) (mR M) mb) (ht : TE (mI M) (mL M) mb τ) (hw : WF τ) (htb : TEb (mI M) (mL M) mb τ) (hlb : LTB M mb) (x y z : Int32) : CT l yX12_pay cX12_pay 5 (some .int) 2 0 0 47 G M [.ref mb, .int x, .int y, .int z] (fun v M' => PP mb M τ (cd2 (rng x (un τ 9 9) && rng y 720) (inB z (lN 0) (lN 1000000))) (spS (sI τ 6 (720 * x.toNatClampNeg + (if y.toNatClampNeg < un τ 2 x.toNatClampNeg then un τ 2 x.toNatClampNeg else y.toNatClampNeg)) z) x.toNatClampNeg 720) (some (.int (nI (payD τ x.toNatClampNeg y.toNatClampNeg)))) v M') := by
  refine CT.of hfl rfl (Nat.le_of_ble_eq_true rfl) ?_
  intro pp ee ss mm ar bw mt cd C hgX hr hini
  have hnc := hw.nc.2
  have hsh := hw.sh.2
  have hnl := hw.nl.2
  have hne := hw.ne.2
  have hng := hw.ng.2
  have hop := hw.op.2
  have hnp := hw.np.2
  have ht0 := ht
  have hm0 := hm
  have htb0 := htb
  have hfo := fOut.rf [67, 6, 7] mb M
  refine V.eLo (lo' := [(0, .ref mb), (1, .int x), (2, .int y), (3, .int z)]) rfl ?_
  refine r_aload_n C 0 dX12_pay_0 rfl rfl ?_
  have jn39 : V pp l ee ({ frames := 2, cells := 0, slots := 0, locals := 47 } : Room) ss mm ar bw mt cd G (MQ bw (Ke G (fun v M' => PP mb M τ (cd2 (rng x (un τ 9 9) && rng y 720) (inB z (lN 0) (lN 1000000))) (spS (sI τ 6 (720 * x.toNatClampNeg + (if y.toNatClampNeg < un τ 2 x.toNatClampNeg then un τ 2 x.toNatClampNeg else y.toNatClampNeg)) z) x.toNatClampNeg 720) (some (.int (nI (payD τ x.toNatClampNeg y.toNatClampNeg)))) v M')) ar ss 0 0 (gA G)) 5 M 0 0 39 [(0, .ref mb), (1, .int x), (2, .int y), (3, .int z)] [.int (nI (cd2 (rng x (un τ 9 9) && rng y 720) (inB z (lN 0) (lN 1000000)))), .ref mb] := by
    skip
    refine r_callV C hgX (ci := 14) ml_X12_227 im_X12_holds se_X12_holds rfl rfl hm.k (c_X12_holds l hfl G M mb hm (nI (cd2 (rng x (un τ 9 9) && rng y 720) (inB z (lN 0) (lN 1000000))))) rfl (Nat.le_of_ble_eq_true rfl) ⟨Nat.le_of_ble_eq_true rfl, Nat.le_of_ble_eq_true rfl⟩ ⟨Nat.le_of_ble_eq_true rfl, Nat.le_of_ble_eq_true rfl⟩ dX12_pay_39 rfl ?_
    rintro _ _ ⟨rfl, rfl⟩
    refine V.eSt (st' := [.int (bI (decide (0 < nI (cd2 (rng x (un τ 9 9) && rng y 720) (inB z (lN 0) (lN 1000000))))))]) rfl ?_
    refine V.ei (y := bI (decide ((cd2 (rng x (un τ 9 9) && rng y 720) (inB z (lN 0) (lN 1000000))) ≠ 0))) (congrArg bI (hold_d (cd2_le _ _))) ?_
    have hfo := hfo.set0 67 (nI (cd2 (rng x (un τ 9 9) && rng y 720) (inB z (lN 0) (lN 1000000)))) rfl
    have ht := ht.ws 67 (nI (cd2 (rng x (un τ 9 9) && rng y 720) (inB z (lN 0) (lN 1000000)))) rfl rfl
    have htb := ((fOut.rf [67] mb _).set0 67 (nI (cd2 (rng x (un τ 9 9) && rng y 720) (inB z (lN 0) (lN 1000000)))) rfl).tb rfl htb
    have h67 : mI (wI M mb 67 (nI (cd2 (rng x (un τ 9 9) && rng y 720) (inB z (lN 0) (lN 1000000))))) mb 67 = nI (cd2 (rng x (un τ 9 9) && rng y 720) (inB z (lN 0) (lN 1000000))) := up2_same _ _ _ _
    have hlb : LTB (wI M mb 67 (nI (cd2 (rng x (un τ 9 9) && rng y 720) (inB z (lN 0) (lN 1000000))))) mb := hlb.ws 67 _
    refine r_if_eqB C (t := 47) dX12_pay_42 (by decide) (fun c42 => ?_) (fun c42 => ?_)
    · skip
      have c42d := of_decide_eq_false c42
      have hC : (cd2 (rng x (un τ 9 9) && rng y 720) (inB z (lN 0) (lN 1000000))) = 0 := by have := c42d; omega
      obtain ⟨h1, h2⟩ := cd2_0 hC
      obtain ⟨hx, hy⟩ := Bool.and_eq_true_iff.mp h1
      obtain ⟨c, hc, e_x⟩ := rng_t hx
      obtain ⟨d, hd, e_y⟩ := rng_t hy
      have hcf := (hw.cf c hc).2
      refine V.eLo (lo' := [(0, .ref mb), (1, .int (nI c)), (2, .int (nI d)), (3, .int z)]) (by rw [e_x, e_y]) ?_
      refine r_aload_n C 0 dX12_pay_47 rfl rfl ?_
      refine r_iload_n C 1 dX12_pay_48 rfl rfl ?_
      refine r_iload_n C 2 dX12_pay_49 rfl rfl ?_
      refine r_callV C hgX (ci := 14) ml_X12_234 im_X12_payOn se_X12_payOn rfl rfl (show mK (wI M mb 67 (nI (cd2 (rng x (un τ 9 9) && rng y 720) (inB z (lN 0) (lN 1000000))))) mb = 14 + 1 from hm.k) (c_X12_payOn l hfl G (wI M mb 67 (nI (cd2 (rng x (un τ 9 9) && rng y 720) (inB z (lN 0) (lN 1000000))))) mb τ hm ht hw c d (by omega) (by omega)) rfl (Nat.le_of_ble_eq_true rfl) ⟨Nat.le_of_ble_eq_true rfl, Nat.le_of_ble_eq_true rfl⟩ ⟨Nat.le_of_ble_eq_true rfl, Nat.le_of_ble_eq_true rfl⟩ dX12_pay_50 rfl ?_
      rintro _ _ ⟨rfl, rfl⟩
      refine V.eSt (st' := [.long (lN (payD τ c d))]) rfl ?_
      refine r_l2i C dX12_pay_53 ?_
      refine V.ei (y := nI (payD τ c d)) (lN_i _) ?_
      refine r_istore C (lo' := [(4, .int (nI (payD τ c d))), (0, .ref mb), (1, .int (nI c)), (2, .int (nI d)), (3, .int z)]) dX12_pay_54 (by decide) rfl ?_
      refine r_aload_n C 1 dX12_pay_56 rfl rfl ?_
      refine r_getR C (b := (ma mb 6)) fl_X12_28 rfl hm.k (hm.r 6 rfl) dX12_pay_57 ?_
      refine r_sipush C (v := nI 720) dX12_pay_60 (by decide) ?_
      refine r_iload_n C 2 dX12_pay_63 rfl rfl ?_
      refine r_imulN C dX12_pay_64 ?_
      have jn85 : V pp l ee ({ frames := 2, cells := 0, slots := 0, locals := 47 } : Room) ss mm ar bw mt cd G (MQ bw (Ke G (fun v M' => PP mb M τ (cd2 (rng x (un τ 9 9) && rng y 720) (inB z (lN 0) (lN 1000000))) (spS (sI τ 6 (720 * x.toNatClampNeg + (if y.toNatClampNeg < un τ 2 x.toNatClampNeg then un τ 2 x.toNatClampNeg else y.toNatClampNeg)) z) x.toNatClampNeg 720) (some (.int (nI (payD τ x.toNatClampNeg y.toNatClampNeg)))) v M')) ar ss 0 0 (gA G)) 5 (wI M mb 67 (nI (cd2 (rng x (un τ 9 9) && rng y 720) (inB z (lN 0) (lN 1000000))))) 0 0 85 [(4, .int (nI (payD τ c d))), (0, .ref mb), (1, .int (nI c)), (2, .int (nI d)), (3, .int z)] [.int (nI (if d < un τ 2 c then un τ 2 c else d)), .int (nI (720 * c)), .ref (ma mb 6)] := by
        skip
        have hdd : (if d < un τ 2 c then un τ 2 c else d) < 720 := by split <;> omega
        refine r_iaddN C dX12_pay_85 ?_
        refine r_iload_n C 4 dX12_pay_86 rfl rfl ?_
        refine r_iastoreN C (hm.i 6 20 rfl) (hm.n 6 7200 rfl) (by omega) (by omega) dX12_pay_87 ?_
        have htb := ((fOut.rf [6] mb _).setI 6 (720 * c + (if d < un τ 2 c then un τ 2 c else d)) z rfl).tb rfl htb
        have hlb : LTB (wI (wI M mb 67 (nI (cd2 (rng x (un τ 9 9) && rng y 720) (inB z (lN 0) (lN 1000000))))) (ma mb 6) (720 * c + (if d < un τ 2 c then un τ 2 c else d)) z) mb := hlb.wi 6 _ _ rfl
        have hfo := hfo.setI 6 (720 * c + (if d < un τ 2 c then un τ 2 c else d)) z rfl
        have h67 : mI (wI (wI M mb 67 (nI (cd2 (rng x (un τ 9 9) && rng y 720) (inB z (lN 0) (lN 1000000))))) (ma mb 6) (720 * c + (if d < un τ 2 c then un τ 2 c else d)) z) mb 67 = _ := (up2_a _ _ (ma_0 rfl).symm).trans h67
        have ht := ht.ui 6 (720 * c + (if d < un τ 2 c then un τ 2 c else d)) z rfl
        refine r_aload_n C 1 dX12_pay_88 rfl rfl ?_
        refine r_iload_n C 2 dX12_pay_89 rfl rfl ?_
        refine r_callV C hgX (ci := 14) ml_X12_230 im_X12_spread se_X12_spread rfl rfl (show mK (wI (wI M mb 67 (nI (cd2 (rng x (un τ 9 9) && rng y 720) (inB z (lN 0) (lN 1000000))))) (ma mb 6) (720 * c + (if d < un τ 2 c then un τ 2 c else d)) z) mb = 14 + 1 from hm.k) (c_X12_spread l hfl G (wI (wI M mb 67 (nI (cd2 (rng x (un τ 9 9) && rng y 720) (inB z (lN 0) (lN 1000000))))) (ma mb 6) (720 * c + (if d < un τ 2 c then un τ 2 c else d)) z) mb _ hm ht c (by omega)) rfl (Nat.le_of_ble_eq_true rfl) ⟨Nat.le_of_ble_eq_true rfl, Nat.le_of_ble_eq_true rfl⟩ ⟨Nat.le_of_ble_eq_true rfl, Nat.le_of_ble_eq_true rfl⟩ dX12_pay_90 rfl ?_
        rintro _ My1 ⟨rfl, hfo1, hte1⟩
        have hm := hfo1.ok hm
        have htb := hfo1.tb rfl htb
        have hlb := hlb.fo hfo1 rfl
        have h67 := (hfo1.s 67 rfl).trans h67
        have hfo := hfo.tr (hfo1.mono rfl)
        have ht := hte1
        refine r_iload C 0 dX12_pay_93 rfl ?_
        exact r_iret C hr (⟨h67, hfo.mo, hlb, fun q => absurd hC q, fun _ => ⟨by rw [e_x, e_y, nI_clamp (n := c) (by omega), nI_clamp (n := d) (by omega)], by rw [← (show spS (sI τ 6 (720 * c + (if d < un τ 2 c then un τ 2 c else d)) z) c 720 = spS (sI τ 6 (720 * x.toNatClampNeg + (if y.toNatClampNeg < un τ 2 x.toNatClampNeg then un τ 2 x.toNatClampNeg else y.toNatClampNeg)) z) x.toNatClampNeg 720 by rw [e_x, e_y, nI_clamp (n := c) (by omega), nI_clamp (n := d) (by omega)])]; exact ht, htb.cg rfl rfl (fun _ => ⟨rfl, rfl⟩) (fun _ => ⟨rfl, rfl⟩) (fun _ => ⟨rfl, rfl⟩) (fun _ => ⟨rfl, rfl⟩) (fun _ => ⟨rfl, rfl⟩) (fun _ => ⟨rfl, rfl⟩) (fun _ => ⟨rfl, rfl⟩) ⟩, by first | exact KD.i | exact KD.l | exact KD.n⟩) (by first | exact Nat.zero_le _ | decide) (by first | exact Nat.zero_le _ | decide) dX12_pay_95
      refine r_iload_n C 3 dX12_pay_65 rfl rfl ?_
      refine r_aload_n C 1 dX12_pay_66 rfl rfl ?_
      refine r_getR C (b := (ma mb 2)) fl_X12_16 rfl hm.k (hm.r 2 rfl) dX12_pay_67 ?_
      refine r_iload_n C 2 dX12_pay_70 rfl rfl ?_
      refine r_ialoadN C (hm.i 2 20 rfl) (hm.n 2 10 rfl) (by omega) (by omega) dX12_pay_71 ?_
      refine V.ei (y := nI (un τ 2 c)) ((ht.i 2 rfl _).trans (hw.cf c (by omega)).1) ?_
      have hb1 := (hw.cf c (by omega)).2
      refine r_icmp_geN C (t := 84) (by omega) (by omega) dX12_pay_72 (by decide) (fun c72 => ?_) (fun c72 => ?_)
      · skip
        refine r_iload_n C 3 dX12_pay_84 rfl rfl ?_
        refine V.ei (y := nI (if d < un τ 2 c then un τ 2 c else d)) (congrArg nI (by rw [if_neg (by omega)])) ?_
        exact jn85
      · skip
        refine r_aload_n C 1 dX12_pay_75 rfl rfl ?_
        refine r_getR C (b := (ma mb 2)) fl_X12_16 rfl hm.k (hm.r 2 rfl) dX12_pay_76 ?_
        refine r_iload_n C 2 dX12_pay_79 rfl rfl ?_
        refine r_ialoadN C (hm.i 2 20 rfl) (hm.n 2 10 rfl) (by omega) (by omega) dX12_pay_80 ?_
        refine V.ei (y := nI (un τ 2 c)) ((ht.i 2 rfl _).trans (hw.cf c (by omega)).1) ?_
        have hb2 := (hw.cf c (by omega)).2
        refine r_goto C (t := 85) dX12_pay_81 (by decide) ?_
        refine V.ei (y := nI (if d < un τ 2 c then un τ 2 c else d)) (congrArg nI (by rw [if_pos (by omega)])) ?_
        exact jn85
    · skip
      have c42d := of_decide_eq_true c42
      have hC : (cd2 (rng x (un τ 9 9) && rng y 720) (inB z (lN 0) (lN 1000000))) ≠ 0 := c42d
      refine r_iconst C (v := (-1)) dX12_pay_45 (by decide) ?_
      exact r_iret C hr (⟨h67, hfo.mo, hlb, fun _ => ⟨ht, htb⟩, fun q => absurd q hC, by first | exact KD.i | exact KD.l | exact KD.n⟩) (by first | exact Nat.zero_le _ | decide) (by first | exact Nat.zero_le _ | decide) dX12_pay_46
  refine r_aload_n C 0 dX12_pay_1 rfl rfl ?_
  refine r_iload_n C 1 dX12_pay_2 rfl rfl ?_
  refine r_callV C hgX (ci := 14) ml_X12_204 im_X12_isContract se_X12_isContract rfl rfl hm.k (c_X12_isContract l hfl G M mb τ hm ht hw x) rfl (Nat.le_of_ble_eq_true rfl) ⟨Nat.le_of_ble_eq_true rfl, Nat.le_of_ble_eq_true rfl⟩ ⟨Nat.le_of_ble_eq_true rfl, Nat.le_of_ble_eq_true rfl⟩ dX12_pay_3 rfl ?_
  rintro _ _ ⟨rfl, rfl⟩
  refine V.eSt (st' := [.int (bI (rng x (un τ 9 9))), .ref mb]) rfl ?_
  refine r_if_eqB C (t := 17) dX12_pay_6 (by decide) (fun c6 => ?_) (fun c6 => ?_)
  · skip
    refine r_iconst C (v := nI 1) dX12_pay_17 (by decide) ?_
    refine r_goto C (t := 39) dX12_pay_18 (by decide) ?_
    refine V.ei (y := nI (cd2 (rng x (un τ 9 9) && rng y 720) (inB z (lN 0) (lN 1000000)))) (congrArg nI (by simp only [c6] <;> rfl)) ?_
    exact jn39
  · skip
    refine r_aload_n C 0 dX12_pay_9 rfl rfl ?_
    refine r_iload_n C 2 dX12_pay_10 rfl rfl ?_
    refine r_callV C hgX (ci := 14) ml_X12_218 im_X12_isDay se_X12_isDay rfl rfl hm.k (c_X12_isDay l hfl G M mb hm y) rfl (Nat.le_of_ble_eq_true rfl) ⟨Nat.le_of_ble_eq_true rfl, Nat.le_of_ble_eq_true rfl⟩ ⟨Nat.le_of_ble_eq_true rfl, Nat.le_of_ble_eq_true rfl⟩ dX12_pay_11 rfl ?_
    rintro _ _ ⟨rfl, rfl⟩
    refine V.eSt (st' := [.int (bI (rng y 720)), .ref mb]) rfl ?_
    refine r_if_neB C (t := 21) dX12_pay_14 (by decide) (fun c14 => ?_) (fun c14 => ?_)
    · skip
      refine r_aload_n C 0 dX12_pay_21 rfl rfl ?_
      refine r_iload_n C 3 dX12_pay_22 rfl rfl ?_
      refine r_i2l C dX12_pay_23 ?_
      refine r_lconst C (v := lN 0) dX12_pay_24 (by decide) ?_
      refine r_ldc2 C (v := 1000000) kl_X12_225 dX12_pay_25 ?_
      refine V.el (y := lN 1000000) (by decide) ?_
      refine r_callV C hgX (ci := 14) ml_X12_191 im_X12_in se_X12_in rfl rfl hm.k (c_X12_in l hfl G M mb z.toInt64 (lN 0) (lN 1000000)) rfl (Nat.le_of_ble_eq_true rfl) ⟨Nat.le_of_ble_eq_true rfl, Nat.le_of_ble_eq_true rfl⟩ ⟨Nat.le_of_ble_eq_true rfl, Nat.le_of_ble_eq_true rfl⟩ dX12_pay_28 rfl ?_
      rintro _ _ ⟨rfl, rfl⟩
      refine V.eSt (st' := [.int (bI (decide ((lN 0) ≤ z.toInt64 ∧ z.toInt64 ≤ (lN 1000000)))), .ref mb]) rfl ?_
      refine V.ei (y := bI (inB z (lN 0) (lN 1000000))) rfl ?_
      refine r_if_eqB C (t := 38) dX12_pay_31 (by decide) (fun c31 => ?_) (fun c31 => ?_)
      · skip
        refine r_iconst C (v := nI 2) dX12_pay_38 (by decide) ?_
        refine V.ei (y := nI (cd2 (rng x (un τ 9 9) && rng y 720) (inB z (lN 0) (lN 1000000)))) (congrArg nI (by simp only [c6, c14, c31] <;> rfl)) ?_
        exact jn39
      · skip
        refine r_iconst C (v := nI 0) dX12_pay_34 (by decide) ?_
        refine r_goto C (t := 39) dX12_pay_35 (by decide) ?_
        refine V.ei (y := nI (cd2 (rng x (un τ 9 9) && rng y 720) (inB z (lN 0) (lN 1000000)))) (congrArg nI (by simp only [c6, c14, c31] <;> rfl)) ?_
        exact jn39
    · skip
      refine r_iconst C (v := nI 1) dX12_pay_17 (by decide) ?_
      refine r_goto C (t := 39) dX12_pay_18 (by decide) ?_
      refine V.ei (y := nI (cd2 (rng x (un τ 9 9) && rng y 720) (inB z (lN 0) (lN 1000000)))) (congrArg nI (by simp only [c6, c14] <;> rfl)) ?_
      exact jn39
set_option maxHeartbeats 4000000 in
set_option maxRecDepth 100000 in
theorem c_X12_contract (l : Launch) (hfl : l.flags = flags0) (G : gW) (M : Mem) (mb : Nat) (τ : Mu) (hm : MOK (mK M) (mN M) (mR M) mb) (ht : TE (mI M) (mL M) mb τ) (hw : WF τ) (htb : TEb (mI M) (mL M) mb τ) (hlb : LTB M mb) (x y z t : Int32) (b : Bool) (n u : Int32) : CT l yX12_contract cX12_contract 11 (some .int) 2 0 0 47 G M [.ref mb, .int x, .int y, .int z, .int t, .int (bI b), .int n, .int u] (fun v M' => PP mb M τ (cd3 (rng x 6 && rng y 3 && rng z 720 && rng t 720) (decide (z ≤ t) && inB n (lN 60) (lN 600) && inB u (lN 0) (lN 1000000)) (decide (un τ 9 9 ≠ 10))) (sI (spS (sI (sI (sI (sI (sI (sI (sI τ 0 (un τ 9 9) x) 1 (un τ 9 9) y) 2 (un τ 9 9) z) 3 (un τ 9 9) t) 4 (un τ 9 9) (bI b)) 5 (un τ 9 9) n) 6 (720 * un τ 9 9 + z.toNatClampNeg) u) (un τ 9 9) 720) 9 9 (nI (un τ 9 9 + 1))) (some (.int (nI (un τ 9 9)))) v M') := by
  refine CT.of hfl rfl (Nat.le_of_ble_eq_true rfl) ?_
  intro pp ee ss mm ar bw mt cd C hgX hr hini
  have hnc := hw.nc.2
  have hsh := hw.sh.2
  have hnl := hw.nl.2
  have hne := hw.ne.2
  have hng := hw.ng.2
  have hop := hw.op.2
  have hnp := hw.np.2
  have ht0 := ht
  have hm0 := hm
  have htb0 := htb
  have hfo := fOut.rf [67, 0, 1, 2, 3, 4, 5, 6, 7, 9] mb M
  refine V.eLo (lo' := [(0, .ref mb), (1, .int x), (2, .int y), (3, .int z), (4, .int t), (5, .int (bI b)), (6, .int n), (7, .int u)]) rfl ?_
  have jn38 : V pp l ee ({ frames := 2, cells := 0, slots := 0, locals := 47 } : Room) ss mm ar bw mt cd G (MQ bw (Ke G (fun v M' => PP mb M τ (cd3 (rng x 6 && rng y 3 && rng z 720 && rng t 720) (decide (z ≤ t) && inB n (lN 60) (lN 600) && inB u (lN 0) (lN 1000000)) (decide (un τ 9 9 ≠ 10))) (sI (spS (sI (sI (sI (sI (sI (sI (sI τ 0 (un τ 9 9) x) 1 (un τ 9 9) y) 2 (un τ 9 9) z) 3 (un τ 9 9) t) 4 (un τ 9 9) (bI b)) 5 (un τ 9 9) n) 6 (720 * un τ 9 9 + z.toNatClampNeg) u) (un τ 9 9) 720) 9 9 (nI (un τ 9 9 + 1))) (some (.int (nI (un τ 9 9)))) v M')) ar ss 0 0 (gA G)) 11 M 0 0 38 [(0, .ref mb), (1, .int x), (2, .int y), (3, .int z), (4, .int t), (5, .int (bI b)), (6, .int n), (7, .int u)] [.int (bI (rng x 6 && rng y 3 && rng z 720 && rng t 720))] := by
    skip
    refine r_istore C (lo' := [(8, .int (bI (rng x 6 && rng y 3 && rng z 720 && rng t 720))), (0, .ref mb), (1, .int x), (2, .int y), (3, .int z), (4, .int t), (5, .int (bI b)), (6, .int n), (7, .int u)]) dX12_contract_38 (by decide) rfl ?_
    have jn81 : V pp l ee ({ frames := 2, cells := 0, slots := 0, locals := 47 } : Room) ss mm ar bw mt cd G (MQ bw (Ke G (fun v M' => PP mb M τ (cd3 (rng x 6 && rng y 3 && rng z 720 && rng t 720) (decide (z ≤ t) && inB n (lN 60) (lN 600) && inB u (lN 0) (lN 1000000)) (decide (un τ 9 9 ≠ 10))) (sI (spS (sI (sI (sI (sI (sI (sI (sI τ 0 (un τ 9 9) x) 1 (un τ 9 9) y) 2 (un τ 9 9) z) 3 (un τ 9 9) t) 4 (un τ 9 9) (bI b)) 5 (un τ 9 9) n) 6 (720 * un τ 9 9 + z.toNatClampNeg) u) (un τ 9 9) 720) 9 9 (nI (un τ 9 9 + 1))) (some (.int (nI (un τ 9 9)))) v M')) ar ss 0 0 (gA G)) 11 M 0 0 81 [(8, .int (bI (rng x 6 && rng y 3 && rng z 720 && rng t 720))), (0, .ref mb), (1, .int x), (2, .int y), (3, .int z), (4, .int t), (5, .int (bI b)), (6, .int n), (7, .int u)] [.int (bI (decide (z ≤ t) && inB n (lN 60) (lN 600) && inB u (lN 0) (lN 1000000)))] := by
      skip
      refine r_istore C (lo' := [(9, .int (bI (decide (z ≤ t) && inB n (lN 60) (lN 600) && inB u (lN 0) (lN 1000000)))), (8, .int (bI (rng x 6 && rng y 3 && rng z 720 && rng t 720))), (0, .ref mb), (1, .int x), (2, .int y), (3, .int z), (4, .int t), (5, .int (bI b)), (6, .int n), (7, .int u)]) dX12_contract_81 (by decide) rfl ?_
      refine r_aload_n C 2 dX12_contract_83 rfl rfl ?_
      have jn116 : V pp l ee ({ frames := 2, cells := 0, slots := 0, locals := 47 } : Room) ss mm ar bw mt cd G (MQ bw (Ke G (fun v M' => PP mb M τ (cd3 (rng x 6 && rng y 3 && rng z 720 && rng t 720) (decide (z ≤ t) && inB n (lN 60) (lN 600) && inB u (lN 0) (lN 1000000)) (decide (un τ 9 9 ≠ 10))) (sI (spS (sI (sI (sI (sI (sI (sI (sI τ 0 (un τ 9 9) x) 1 (un τ 9 9) y) 2 (un τ 9 9) z) 3 (un τ 9 9) t) 4 (un τ 9 9) (bI b)) 5 (un τ 9 9) n) 6 (720 * un τ 9 9 + z.toNatClampNeg) u) (un τ 9 9) 720) 9 9 (nI (un τ 9 9 + 1))) (some (.int (nI (un τ 9 9)))) v M')) ar ss 0 0 (gA G)) 11 M 0 0 116 [(9, .int (bI (decide (z ≤ t) && inB n (lN 60) (lN 600) && inB u (lN 0) (lN 1000000)))), (8, .int (bI (rng x 6 && rng y 3 && rng z 720 && rng t 720))), (0, .ref mb), (1, .int x), (2, .int y), (3, .int z), (4, .int t), (5, .int (bI b)), (6, .int n), (7, .int u)] [.int (nI (cd3 (rng x 6 && rng y 3 && rng z 720 && rng t 720) (decide (z ≤ t) && inB n (lN 60) (lN 600) && inB u (lN 0) (lN 1000000)) (decide (un τ 9 9 ≠ 10)))), .ref mb] := by
        skip
        refine r_callV C hgX (ci := 14) ml_X12_227 im_X12_holds se_X12_holds rfl rfl hm.k (c_X12_holds l hfl G M mb hm (nI (cd3 (rng x 6 && rng y 3 && rng z 720 && rng t 720) (decide (z ≤ t) && inB n (lN 60) (lN 600) && inB u (lN 0) (lN 1000000)) (decide (un τ 9 9 ≠ 10))))) rfl (Nat.le_of_ble_eq_true rfl) ⟨Nat.le_of_ble_eq_true rfl, Nat.le_of_ble_eq_true rfl⟩ ⟨Nat.le_of_ble_eq_true rfl, Nat.le_of_ble_eq_true rfl⟩ dX12_contract_116 rfl ?_
        rintro _ _ ⟨rfl, rfl⟩
        refine V.eSt (st' := [.int (bI (decide (0 < nI (cd3 (rng x 6 && rng y 3 && rng z 720 && rng t 720) (decide (z ≤ t) && inB n (lN 60) (lN 600) && inB u (lN 0) (lN 1000000)) (decide (un τ 9 9 ≠ 10))))))]) rfl ?_
        refine V.ei (y := bI (decide ((cd3 (rng x 6 && rng y 3 && rng z 720 && rng t 720) (decide (z ≤ t) && inB n (lN 60) (lN 600) && inB u (lN 0) (lN 1000000)) (decide (un τ 9 9 ≠ 10))) ≠ 0))) (congrArg bI (hold_d (cd3_le _ _ _))) ?_
        have hfo := hfo.set0 67 (nI (cd3 (rng x 6 && rng y 3 && rng z 720 && rng t 720) (decide (z ≤ t) && inB n (lN 60) (lN 600) && inB u (lN 0) (lN 1000000)) (decide (un τ 9 9 ≠ 10)))) rfl
        have ht := ht.ws 67 (nI (cd3 (rng x 6 && rng y 3 && rng z 720 && rng t 720) (decide (z ≤ t) && inB n (lN 60) (lN 600) && inB u (lN 0) (lN 1000000)) (decide (un τ 9 9 ≠ 10)))) rfl rfl
        have htb := ((fOut.rf [67] mb _).set0 67 (nI (cd3 (rng x 6 && rng y 3 && rng z 720 && rng t 720) (decide (z ≤ t) && inB n (lN 60) (lN 600) && inB u (lN 0) (lN 1000000)) (decide (un τ 9 9 ≠ 10)))) rfl).tb rfl htb
        have h67 : mI (wI M mb 67 (nI (cd3 (rng x 6 && rng y 3 && rng z 720 && rng t 720) (decide (z ≤ t) && inB n (lN 60) (lN 600) && inB u (lN 0) (lN 1000000)) (decide (un τ 9 9 ≠ 10))))) mb 67 = nI (cd3 (rng x 6 && rng y 3 && rng z 720 && rng t 720) (decide (z ≤ t) && inB n (lN 60) (lN 600) && inB u (lN 0) (lN 1000000)) (decide (un τ 9 9 ≠ 10))) := up2_same _ _ _ _
        have hlb : LTB (wI M mb 67 (nI (cd3 (rng x 6 && rng y 3 && rng z 720 && rng t 720) (decide (z ≤ t) && inB n (lN 60) (lN 600) && inB u (lN 0) (lN 1000000)) (decide (un τ 9 9 ≠ 10))))) mb := hlb.ws 67 _
        refine r_if_eqB C (t := 124) dX12_contract_119 (by decide) (fun c119 => ?_) (fun c119 => ?_)
        · skip
          have c119d := of_decide_eq_false c119
          have hC : (cd3 (rng x 6 && rng y 3 && rng z 720 && rng t 720) (decide (z ≤ t) && inB n (lN 60) (lN 600) && inB u (lN 0) (lN 1000000)) (decide (un τ 9 9 ≠ 10))) = 0 := by have := c119d; omega
          obtain ⟨h1, h2, h3⟩ := cd3_0 hC
          have h3d := of_decide_eq_true h3
          simp only [Bool.and_eq_true] at h1
          obtain ⟨d, hd, e_z⟩ := rng_t h1.1.2
          refine V.eLo (lo' := [(9, .int (bI (decide (z ≤ t) && inB n (lN 60) (lN 600) && inB u (lN 0) (lN 1000000)))), (8, .int (bI (rng x 6 && rng y 3 && rng z 720 && rng t 720))), (0, .ref mb), (1, .int x), (2, .int y), (3, .int (nI d)), (4, .int t), (5, .int (bI b)), (6, .int n), (7, .int u)]) (by rw [e_z]) ?_
          refine r_aload_n C 2 dX12_contract_124 rfl rfl ?_
          refine r_getI C fl_X12_201 rfl hm.k dX12_contract_125 ?_
          refine V.ei (y := nI (un τ 9 9)) ((ht.s 9 rfl).trans hw.nc.1) ?_
          refine r_istore C (lo' := [(10, .int (nI (un τ 9 9))), (9, .int (bI (decide (z ≤ t) && inB n (lN 60) (lN 600) && inB u (lN 0) (lN 1000000)))), (8, .int (bI (rng x 6 && rng y 3 && rng z 720 && rng t 720))), (0, .ref mb), (1, .int x), (2, .int y), (3, .int (nI d)), (4, .int t), (5, .int (bI b)), (6, .int n), (7, .int u)]) dX12_contract_128 (by decide) rfl ?_
          refine r_aload_n C 3 dX12_contract_130 rfl rfl ?_
          refine r_getR C (b := (ma mb 0)) fl_X12_7 rfl hm.k (hm.r 0 rfl) dX12_contract_131 ?_
          refine r_iload C 0 dX12_contract_134 rfl ?_
          refine r_iload_n C 4 dX12_contract_136 rfl rfl ?_
          refine r_iastoreN C (hm.i 0 20 rfl) (hm.n 0 10 rfl) (by omega) (by omega) dX12_contract_137 ?_
          have htb := ((fOut.rf [0] mb _).setI 0 (un τ 9 9) x rfl).tb rfl htb
          have hlb : LTB (wI (wI M mb 67 (nI (cd3 (rng x 6 && rng y 3 && rng z 720 && rng t 720) (decide (z ≤ t) && inB n (lN 60) (lN 600) && inB u (lN 0) (lN 1000000)) (decide (un τ 9 9 ≠ 10))))) (ma mb 0) (un τ 9 9) x) mb := hlb.wi 0 _ _ rfl
          have hfo := hfo.setI 0 (un τ 9 9) x rfl
          have h67 : mI (wI (wI M mb 67 (nI (cd3 (rng x 6 && rng y 3 && rng z 720 && rng t 720) (decide (z ≤ t) && inB n (lN 60) (lN 600) && inB u (lN 0) (lN 1000000)) (decide (un τ 9 9 ≠ 10))))) (ma mb 0) (un τ 9 9) x) mb 67 = _ := (up2_a _ _ (ma_0 rfl).symm).trans h67
          have ht := ht.ui 0 (un τ 9 9) x rfl
          refine r_aload_n C 3 dX12_contract_138 rfl rfl ?_
          refine r_getR C (b := (ma mb 1)) fl_X12_13 rfl hm.k (hm.r 1 rfl) dX12_contract_139 ?_
          refine r_iload C 0 dX12_contract_142 rfl ?_
          refine r_iload_n C 5 dX12_contract_144 rfl rfl ?_
          refine r_iastoreN C (hm.i 1 20 rfl) (hm.n 1 10 rfl) (by omega) (by omega) dX12_contract_145 ?_
          have htb := ((fOut.rf [1] mb _).setI 1 (un τ 9 9) y rfl).tb rfl htb
          have hlb : LTB (wI (wI (wI M mb 67 (nI (cd3 (rng x 6 && rng y 3 && rng z 720 && rng t 720) (decide (z ≤ t) && inB n (lN 60) (lN 600) && inB u (lN 0) (lN 1000000)) (decide (un τ 9 9 ≠ 10))))) (ma mb 0) (un τ 9 9) x) (ma mb 1) (un τ 9 9) y) mb := hlb.wi 1 _ _ rfl
          have hfo := hfo.setI 1 (un τ 9 9) y rfl
          have h67 : mI (wI (wI (wI M mb 67 (nI (cd3 (rng x 6 && rng y 3 && rng z 720 && rng t 720) (decide (z ≤ t) && inB n (lN 60) (lN 600) && inB u (lN 0) (lN 1000000)) (decide (un τ 9 9 ≠ 10))))) (ma mb 0) (un τ 9 9) x) (ma mb 1) (un τ 9 9) y) mb 67 = _ := (up2_a _ _ (ma_0 rfl).symm).trans h67
          have ht := ht.ui 1 (un τ 9 9) y rfl
          refine r_aload_n C 3 dX12_contract_146 rfl rfl ?_
          refine r_getR C (b := (ma mb 2)) fl_X12_16 rfl hm.k (hm.r 2 rfl) dX12_contract_147 ?_
          refine r_iload C 0 dX12_contract_150 rfl ?_
          refine r_iload_n C 6 dX12_contract_152 rfl rfl ?_
          refine r_iastoreN C (hm.i 2 20 rfl) (hm.n 2 10 rfl) (by omega) (by omega) dX12_contract_153 ?_
          have htb := ((fOut.rf [2] mb _).setI 2 (un τ 9 9) (nI d) rfl).tb rfl htb
          have hlb : LTB (wI (wI (wI (wI M mb 67 (nI (cd3 (rng x 6 && rng y 3 && rng z 720 && rng t 720) (decide (z ≤ t) && inB n (lN 60) (lN 600) && inB u (lN 0) (lN 1000000)) (decide (un τ 9 9 ≠ 10))))) (ma mb 0) (un τ 9 9) x) (ma mb 1) (un τ 9 9) y) (ma mb 2) (un τ 9 9) (nI d)) mb := hlb.wi 2 _ _ rfl
          have hfo := hfo.setI 2 (un τ 9 9) (nI d) rfl
          have h67 : mI (wI (wI (wI (wI M mb 67 (nI (cd3 (rng x 6 && rng y 3 && rng z 720 && rng t 720) (decide (z ≤ t) && inB n (lN 60) (lN 600) && inB u (lN 0) (lN 1000000)) (decide (un τ 9 9 ≠ 10))))) (ma mb 0) (un τ 9 9) x) (ma mb 1) (un τ 9 9) y) (ma mb 2) (un τ 9 9) (nI d)) mb 67 = _ := (up2_a _ _ (ma_0 rfl).symm).trans h67
          have ht := ht.ui 2 (un τ 9 9) (nI d) rfl
          refine r_aload_n C 3 dX12_contract_154 rfl rfl ?_
          refine r_getR C (b := (ma mb 3)) fl_X12_19 rfl hm.k (hm.r 3 rfl) dX12_contract_155 ?_
          refine r_iload C 0 dX12_contract_158 rfl ?_
          refine r_iload C 7 dX12_contract_160 rfl ?_
          refine r_iastoreN C (hm.i 3 20 rfl) (hm.n 3 10 rfl) (by omega) (by omega) dX12_contract_162 ?_
          have htb := ((fOut.rf [3] mb _).setI 3 (un τ 9 9) t rfl).tb rfl htb
          have hlb : LTB (wI (wI (wI (wI (wI M mb 67 (nI (cd3 (rng x 6 && rng y 3 && rng z 720 && rng t 720) (decide (z ≤ t) && inB n (lN 60) (lN 600) && inB u (lN 0) (lN 1000000)) (decide (un τ 9 9 ≠ 10))))) (ma mb 0) (un τ 9 9) x) (ma mb 1) (un τ 9 9) y) (ma mb 2) (un τ 9 9) (nI d)) (ma mb 3) (un τ 9 9) t) mb := hlb.wi 3 _ _ rfl
          have hfo := hfo.setI 3 (un τ 9 9) t rfl
          have h67 : mI (wI (wI (wI (wI (wI M mb 67 (nI (cd3 (rng x 6 && rng y 3 && rng z 720 && rng t 720) (decide (z ≤ t) && inB n (lN 60) (lN 600) && inB u (lN 0) (lN 1000000)) (decide (un τ 9 9 ≠ 10))))) (ma mb 0) (un τ 9 9) x) (ma mb 1) (un τ 9 9) y) (ma mb 2) (un τ 9 9) (nI d)) (ma mb 3) (un τ 9 9) t) mb 67 = _ := (up2_a _ _ (ma_0 rfl).symm).trans h67
          have ht := ht.ui 3 (un τ 9 9) t rfl
          refine r_aload_n C 3 dX12_contract_163 rfl rfl ?_
          refine r_getR C (b := (ma mb 4)) fl_X12_22 rfl hm.k (hm.r 4 rfl) dX12_contract_164 ?_
          refine r_iload C 0 dX12_contract_167 rfl ?_
          have jn179 : V pp l ee ({ frames := 2, cells := 0, slots := 0, locals := 47 } : Room) ss mm ar bw mt cd G (MQ bw (Ke G (fun v M' => PP mb M τ (cd3 (rng x 6 && rng y 3 && rng z 720 && rng t 720) (decide (z ≤ t) && inB n (lN 60) (lN 600) && inB u (lN 0) (lN 1000000)) (decide (un τ 9 9 ≠ 10))) (sI (spS (sI (sI (sI (sI (sI (sI (sI τ 0 (un τ 9 9) x) 1 (un τ 9 9) y) 2 (un τ 9 9) z) 3 (un τ 9 9) t) 4 (un τ 9 9) (bI b)) 5 (un τ 9 9) n) 6 (720 * un τ 9 9 + z.toNatClampNeg) u) (un τ 9 9) 720) 9 9 (nI (un τ 9 9 + 1))) (some (.int (nI (un τ 9 9)))) v M')) ar ss 0 0 (gA G)) 11 (wI (wI (wI (wI (wI M mb 67 (nI (cd3 (rng x 6 && rng y 3 && rng z 720 && rng t 720) (decide (z ≤ t) && inB n (lN 60) (lN 600) && inB u (lN 0) (lN 1000000)) (decide (un τ 9 9 ≠ 10))))) (ma mb 0) (un τ 9 9) x) (ma mb 1) (un τ 9 9) y) (ma mb 2) (un τ 9 9) (nI d)) (ma mb 3) (un τ 9 9) t) 0 0 179 [(10, .int (nI (un τ 9 9))), (9, .int (bI (decide (z ≤ t) && inB n (lN 60) (lN 600) && inB u (lN 0) (lN 1000000)))), (8, .int (bI (rng x 6 && rng y 3 && rng z 720 && rng t 720))), (0, .ref mb), (1, .int x), (2, .int y), (3, .int (nI d)), (4, .int t), (5, .int (bI b)), (6, .int n), (7, .int u)] [.int (bI b), .int (nI (un τ 9 9)), .ref (ma mb 4)] := by
            skip
            refine r_iastoreN C (hm.i 4 20 rfl) (hm.n 4 10 rfl) (by omega) (by omega) dX12_contract_179 ?_
            have htb := ((fOut.rf [4] mb _).setI 4 (un τ 9 9) (bI b) rfl).tb rfl htb
            have hlb : LTB (wI (wI (wI (wI (wI (wI M mb 67 (nI (cd3 (rng x 6 && rng y 3 && rng z 720 && rng t 720) (decide (z ≤ t) && inB n (lN 60) (lN 600) && inB u (lN 0) (lN 1000000)) (decide (un τ 9 9 ≠ 10))))) (ma mb 0) (un τ 9 9) x) (ma mb 1) (un τ 9 9) y) (ma mb 2) (un τ 9 9) (nI d)) (ma mb 3) (un τ 9 9) t) (ma mb 4) (un τ 9 9) (bI b)) mb := hlb.wi 4 _ _ rfl
            have hfo := hfo.setI 4 (un τ 9 9) (bI b) rfl
            have h67 : mI (wI (wI (wI (wI (wI (wI M mb 67 (nI (cd3 (rng x 6 && rng y 3 && rng z 720 && rng t 720) (decide (z ≤ t) && inB n (lN 60) (lN 600) && inB u (lN 0) (lN 1000000)) (decide (un τ 9 9 ≠ 10))))) (ma mb 0) (un τ 9 9) x) (ma mb 1) (un τ 9 9) y) (ma mb 2) (un τ 9 9) (nI d)) (ma mb 3) (un τ 9 9) t) (ma mb 4) (un τ 9 9) (bI b)) mb 67 = _ := (up2_a _ _ (ma_0 rfl).symm).trans h67
            have ht := ht.ui 4 (un τ 9 9) (bI b) rfl
            refine r_aload_n C 3 dX12_contract_180 rfl rfl ?_
            refine r_getR C (b := (ma mb 5)) fl_X12_25 rfl hm.k (hm.r 5 rfl) dX12_contract_181 ?_
            refine r_iload C 0 dX12_contract_184 rfl ?_
            refine r_iload C 9 dX12_contract_186 rfl ?_
            refine r_iastoreN C (hm.i 5 20 rfl) (hm.n 5 10 rfl) (by omega) (by omega) dX12_contract_188 ?_
            have htb := ((fOut.rf [5] mb _).setI 5 (un τ 9 9) n rfl).tb rfl htb
            have hlb : LTB (wI (wI (wI (wI (wI (wI (wI M mb 67 (nI (cd3 (rng x 6 && rng y 3 && rng z 720 && rng t 720) (decide (z ≤ t) && inB n (lN 60) (lN 600) && inB u (lN 0) (lN 1000000)) (decide (un τ 9 9 ≠ 10))))) (ma mb 0) (un τ 9 9) x) (ma mb 1) (un τ 9 9) y) (ma mb 2) (un τ 9 9) (nI d)) (ma mb 3) (un τ 9 9) t) (ma mb 4) (un τ 9 9) (bI b)) (ma mb 5) (un τ 9 9) n) mb := hlb.wi 5 _ _ rfl
            have hfo := hfo.setI 5 (un τ 9 9) n rfl
            have h67 : mI (wI (wI (wI (wI (wI (wI (wI M mb 67 (nI (cd3 (rng x 6 && rng y 3 && rng z 720 && rng t 720) (decide (z ≤ t) && inB n (lN 60) (lN 600) && inB u (lN 0) (lN 1000000)) (decide (un τ 9 9 ≠ 10))))) (ma mb 0) (un τ 9 9) x) (ma mb 1) (un τ 9 9) y) (ma mb 2) (un τ 9 9) (nI d)) (ma mb 3) (un τ 9 9) t) (ma mb 4) (un τ 9 9) (bI b)) (ma mb 5) (un τ 9 9) n) mb 67 = _ := (up2_a _ _ (ma_0 rfl).symm).trans h67
            have ht := ht.ui 5 (un τ 9 9) n rfl
            refine r_aload_n C 3 dX12_contract_189 rfl rfl ?_
            refine r_getR C (b := (ma mb 6)) fl_X12_28 rfl hm.k (hm.r 6 rfl) dX12_contract_190 ?_
            refine r_sipush C (v := nI 720) dX12_contract_193 (by decide) ?_
            refine r_iload C 0 dX12_contract_196 rfl ?_
            refine r_imulN C dX12_contract_198 ?_
            refine r_iload_n C 6 dX12_contract_199 rfl rfl ?_
            refine r_iaddN C dX12_contract_200 ?_
            refine r_iload C 10 dX12_contract_201 rfl ?_
            refine r_iastoreN C (hm.i 6 20 rfl) (hm.n 6 7200 rfl) (by omega) (by omega) dX12_contract_203 ?_
            have htb := ((fOut.rf [6] mb _).setI 6 (720 * (un τ 9 9) + d) u rfl).tb rfl htb
            have hlb : LTB (wI (wI (wI (wI (wI (wI (wI (wI M mb 67 (nI (cd3 (rng x 6 && rng y 3 && rng z 720 && rng t 720) (decide (z ≤ t) && inB n (lN 60) (lN 600) && inB u (lN 0) (lN 1000000)) (decide (un τ 9 9 ≠ 10))))) (ma mb 0) (un τ 9 9) x) (ma mb 1) (un τ 9 9) y) (ma mb 2) (un τ 9 9) (nI d)) (ma mb 3) (un τ 9 9) t) (ma mb 4) (un τ 9 9) (bI b)) (ma mb 5) (un τ 9 9) n) (ma mb 6) (720 * (un τ 9 9) + d) u) mb := hlb.wi 6 _ _ rfl
            have hfo := hfo.setI 6 (720 * (un τ 9 9) + d) u rfl
            have h67 : mI (wI (wI (wI (wI (wI (wI (wI (wI M mb 67 (nI (cd3 (rng x 6 && rng y 3 && rng z 720 && rng t 720) (decide (z ≤ t) && inB n (lN 60) (lN 600) && inB u (lN 0) (lN 1000000)) (decide (un τ 9 9 ≠ 10))))) (ma mb 0) (un τ 9 9) x) (ma mb 1) (un τ 9 9) y) (ma mb 2) (un τ 9 9) (nI d)) (ma mb 3) (un τ 9 9) t) (ma mb 4) (un τ 9 9) (bI b)) (ma mb 5) (un τ 9 9) n) (ma mb 6) (720 * (un τ 9 9) + d) u) mb 67 = _ := (up2_a _ _ (ma_0 rfl).symm).trans h67
            have ht := ht.ui 6 (720 * (un τ 9 9) + d) u rfl
            refine r_aload_n C 3 dX12_contract_204 rfl rfl ?_
            refine r_iload C 0 dX12_contract_205 rfl ?_
            refine r_callV C hgX (ci := 14) ml_X12_230 im_X12_spread se_X12_spread rfl rfl (show mK (wI (wI (wI (wI (wI (wI (wI (wI M mb 67 (nI (cd3 (rng x 6 && rng y 3 && rng z 720 && rng t 720) (decide (z ≤ t) && inB n (lN 60) (lN 600) && inB u (lN 0) (lN 1000000)) (decide (un τ 9 9 ≠ 10))))) (ma mb 0) (un τ 9 9) x) (ma mb 1) (un τ 9 9) y) (ma mb 2) (un τ 9 9) (nI d)) (ma mb 3) (un τ 9 9) t) (ma mb 4) (un τ 9 9) (bI b)) (ma mb 5) (un τ 9 9) n) (ma mb 6) (720 * (un τ 9 9) + d) u) mb = 14 + 1 from hm.k) (c_X12_spread l hfl G (wI (wI (wI (wI (wI (wI (wI (wI M mb 67 (nI (cd3 (rng x 6 && rng y 3 && rng z 720 && rng t 720) (decide (z ≤ t) && inB n (lN 60) (lN 600) && inB u (lN 0) (lN 1000000)) (decide (un τ 9 9 ≠ 10))))) (ma mb 0) (un τ 9 9) x) (ma mb 1) (un τ 9 9) y) (ma mb 2) (un τ 9 9) (nI d)) (ma mb 3) (un τ 9 9) t) (ma mb 4) (un τ 9 9) (bI b)) (ma mb 5) (un τ 9 9) n) (ma mb 6) (720 * (un τ 9 9) + d) u) mb _ hm ht (un τ 9 9) (by omega)) rfl (Nat.le_of_ble_eq_true rfl) ⟨Nat.le_of_ble_eq_true rfl, Nat.le_of_ble_eq_true rfl⟩ ⟨Nat.le_of_ble_eq_true rfl, Nat.le_of_ble_eq_true rfl⟩ dX12_contract_207 rfl ?_
            rintro _ My2 ⟨rfl, hfo2, hte2⟩
            have hm := hfo2.ok hm
            have htb := hfo2.tb rfl htb
            have hlb := hlb.fo hfo2 rfl
            have h67 := (hfo2.s 67 rfl).trans h67
            have hfo := hfo.tr (hfo2.mono rfl)
            have ht := hte2
            refine r_aload_n C 3 dX12_contract_210 rfl rfl ?_
            refine r_dup C dX12_contract_211 rfl ?_
            refine r_getI C fl_X12_201 rfl hm.k dX12_contract_212 ?_
            refine V.ei (y := nI (un τ 9 9)) ((ht.s 9 rfl).trans hw.nc.1) ?_
            refine r_iconst C (v := nI 1) dX12_contract_215 (by decide) ?_
            refine r_iaddN C dX12_contract_216 ?_
            refine r_putI C fl_X12_201 hm.k dX12_contract_217 ?_
            have htb := ((fOut.rf [9] mb _).set0 9 (nI (un τ 9 9 + 1)) rfl).tb rfl htb
            have hlb : LTB (wI My2 mb 9 (nI (un τ 9 9 + 1))) mb := hlb.ws 9 _
            have hfo := hfo.set0 9 (nI (un τ 9 9 + 1)) rfl
            have h67 : mI (wI My2 mb 9 (nI (un τ 9 9 + 1))) mb 67 = _ := (up2_k _ _ (by decide)).trans h67
            have ht := ht.us 9 (nI (un τ 9 9 + 1)) rfl
            refine r_iload C 0 dX12_contract_220 rfl ?_
            exact r_iret C hr (⟨h67, hfo.mo, hlb, fun q => absurd hC q, fun _ => ⟨rfl, by rw [← (show sI (spS (sI (sI (sI (sI (sI (sI (sI τ 0 (un τ 9 9) x) 1 (un τ 9 9) y) 2 (un τ 9 9) (nI d)) 3 (un τ 9 9) t) 4 (un τ 9 9) (bI b)) 5 (un τ 9 9) n) 6 (720 * un τ 9 9 + d) u) (un τ 9 9) 720) 9 9 (nI (un τ 9 9 + 1)) = sI (spS (sI (sI (sI (sI (sI (sI (sI τ 0 (un τ 9 9) x) 1 (un τ 9 9) y) 2 (un τ 9 9) z) 3 (un τ 9 9) t) 4 (un τ 9 9) (bI b)) 5 (un τ 9 9) n) 6 (720 * un τ 9 9 + z.toNatClampNeg) u) (un τ 9 9) 720) 9 9 (nI (un τ 9 9 + 1)) by rw [e_z, nI_clamp (n := d) (by omega)])]; exact ht, htb.cg rfl rfl (fun _ => ⟨rfl, rfl⟩) (fun _ => ⟨rfl, rfl⟩) (fun _ => ⟨rfl, rfl⟩) (fun _ => ⟨rfl, rfl⟩) (fun _ => ⟨rfl, rfl⟩) (fun _ => ⟨rfl, rfl⟩) (fun _ => ⟨rfl, rfl⟩) ⟩, by first | exact KD.i | exact KD.l | exact KD.n⟩) (by first | exact Nat.zero_le _ | decide) (by first | exact Nat.zero_le _ | decide) dX12_contract_222
          refine r_iload C 8 dX12_contract_169 rfl ?_
          refine r_if_eqB C (t := 178) dX12_contract_171 (by decide) (fun c171 => ?_) (fun c171 => ?_)
          · skip
            refine r_iconst C (v := nI 0) dX12_contract_178 (by decide) ?_
            refine V.eSt (st' := [.int (bI false), .int (nI (un τ 9 9)), .ref (ma mb 4)]) rfl ?_
            refine V.ei (y := bI b) (congrArg bI (by exact c171.symm)) ?_
            exact jn179
          · skip
            refine r_iconst C (v := nI 1) dX12_contract_174 (by decide) ?_
            refine r_goto C (t := 179) dX12_contract_175 (by decide) ?_
            refine V.eSt (st' := [.int (bI true), .int (nI (un τ 9 9)), .ref (ma mb 4)]) rfl ?_
            refine V.ei (y := bI b) (congrArg bI (by exact c171.symm)) ?_
            exact jn179
        · skip
          have c119d := of_decide_eq_true c119
          have hC : (cd3 (rng x 6 && rng y 3 && rng z 720 && rng t 720) (decide (z ≤ t) && inB n (lN 60) (lN 600) && inB u (lN 0) (lN 1000000)) (decide (un τ 9 9 ≠ 10))) ≠ 0 := c119d
          refine r_iconst C (v := (-1)) dX12_contract_122 (by decide) ?_
          exact r_iret C hr (⟨h67, hfo.mo, hlb, fun _ => ⟨ht, htb⟩, fun q => absurd q hC, by first | exact KD.i | exact KD.l | exact KD.n⟩) (by first | exact Nat.zero_le _ | decide) (by first | exact Nat.zero_le _ | decide) dX12_contract_123
      refine r_iload C 1 dX12_contract_84 rfl ?_
      refine r_if_neB C (t := 93) dX12_contract_86 (by decide) (fun c86 => ?_) (fun c86 => ?_)
      · skip
        refine r_iload C 0 dX12_contract_93 rfl ?_
        refine r_if_neB C (t := 102) dX12_contract_95 (by decide) (fun c95 => ?_) (fun c95 => ?_)
        · skip
          refine r_aload_n C 2 dX12_contract_102 rfl rfl ?_
          refine r_getI C fl_X12_201 rfl hm.k dX12_contract_103 ?_
          refine V.ei (y := nI (un τ 9 9)) ((ht.s 9 rfl).trans hw.nc.1) ?_
          refine r_bipush C (v := nI 10) dX12_contract_106 (by decide) ?_
          refine r_icmp_neN C (t := 115) (by omega) (by omega) dX12_contract_108 (by decide) (fun c108 => ?_) (fun c108 => ?_)
          · skip
            refine r_iconst C (v := nI 0) dX12_contract_115 (by decide) ?_
            refine V.ei (y := nI (cd3 (rng x 6 && rng y 3 && rng z 720 && rng t 720) (decide (z ≤ t) && inB n (lN 60) (lN 600) && inB u (lN 0) (lN 1000000)) (decide (un τ 9 9 ≠ 10)))) (congrArg nI (by simp only [c86, c95, decide_eq_true c108] <;> rfl)) ?_
            exact jn116
          · skip
            refine r_iconst C (v := nI 3) dX12_contract_111 (by decide) ?_
            refine r_goto C (t := 116) dX12_contract_112 (by decide) ?_
            refine V.ei (y := nI (cd3 (rng x 6 && rng y 3 && rng z 720 && rng t 720) (decide (z ≤ t) && inB n (lN 60) (lN 600) && inB u (lN 0) (lN 1000000)) (decide (un τ 9 9 ≠ 10)))) (congrArg nI (by simp only [c86, c95, show decide (un τ 9 9 ≠ 10) = false from decide_eq_false (fun q => q c108)] <;> rfl)) ?_
            exact jn116
        · skip
          refine r_iconst C (v := nI 2) dX12_contract_98 (by decide) ?_
          refine r_goto C (t := 116) dX12_contract_99 (by decide) ?_
          refine V.ei (y := nI (cd3 (rng x 6 && rng y 3 && rng z 720 && rng t 720) (decide (z ≤ t) && inB n (lN 60) (lN 600) && inB u (lN 0) (lN 1000000)) (decide (un τ 9 9 ≠ 10)))) (congrArg nI (by simp only [c86, c95] <;> rfl)) ?_
          exact jn116
      · skip
        refine r_iconst C (v := nI 1) dX12_contract_89 (by decide) ?_
        refine r_goto C (t := 116) dX12_contract_90 (by decide) ?_
        refine V.ei (y := nI (cd3 (rng x 6 && rng y 3 && rng z 720 && rng t 720) (decide (z ≤ t) && inB n (lN 60) (lN 600) && inB u (lN 0) (lN 1000000)) (decide (un τ 9 9 ≠ 10)))) (congrArg nI (by simp only [c86] <;> rfl)) ?_
        exact jn116
    refine r_iload C 5 dX12_contract_40 rfl ?_
    refine r_iload_n C 4 dX12_contract_42 rfl rfl ?_
    refine r_icmp_lt C (t := 80) dX12_contract_43 (by decide) (fun c43 => ?_) (fun c43 => ?_)
    · skip
      refine r_iconst C (v := nI 0) dX12_contract_80 (by decide) ?_
      refine V.eSt (st' := [.int (bI false)]) rfl ?_
      refine V.ei (y := bI (decide (z ≤ t) && inB n (lN 60) (lN 600) && inB u (lN 0) (lN 1000000))) (congrArg bI (by simp only [decide_eq_false (Int32.not_le.mpr c43)] <;> rfl)) ?_
      exact jn81
    · skip
      refine r_aload_n C 1 dX12_contract_46 rfl rfl ?_
      refine r_iload C 7 dX12_contract_47 rfl ?_
      refine r_i2l C dX12_contract_49 ?_
      refine r_ldc2 C (v := 60) kl_X12_221 dX12_contract_50 ?_
      refine V.el (y := lN 60) (by decide) ?_
      refine r_ldc2 C (v := 600) kl_X12_223 dX12_contract_53 ?_
      refine V.el (y := lN 600) (by decide) ?_
      refine r_callV C hgX (ci := 14) ml_X12_191 im_X12_in se_X12_in rfl rfl hm.k (c_X12_in l hfl G M mb n.toInt64 (lN 60) (lN 600)) rfl (Nat.le_of_ble_eq_true rfl) ⟨Nat.le_of_ble_eq_true rfl, Nat.le_of_ble_eq_true rfl⟩ ⟨Nat.le_of_ble_eq_true rfl, Nat.le_of_ble_eq_true rfl⟩ dX12_contract_56 rfl ?_
      rintro _ _ ⟨rfl, rfl⟩
      refine V.eSt (st' := [.int (bI (decide ((lN 60) ≤ n.toInt64 ∧ n.toInt64 ≤ (lN 600))))]) rfl ?_
      refine V.ei (y := bI (inB n (lN 60) (lN 600))) rfl ?_
      refine r_if_eqB C (t := 80) dX12_contract_59 (by decide) (fun c59 => ?_) (fun c59 => ?_)
      · skip
        refine r_iconst C (v := nI 0) dX12_contract_80 (by decide) ?_
        refine V.eSt (st' := [.int (bI false)]) rfl ?_
        refine V.ei (y := bI (decide (z ≤ t) && inB n (lN 60) (lN 600) && inB u (lN 0) (lN 1000000))) (congrArg bI (by simp only [decide_eq_true (Int32.not_lt.mp c43), c59] <;> rfl)) ?_
        exact jn81
      · skip
        refine r_aload_n C 1 dX12_contract_62 rfl rfl ?_
        refine r_iload C 8 dX12_contract_63 rfl ?_
        refine r_i2l C dX12_contract_65 ?_
        refine r_lconst C (v := lN 0) dX12_contract_66 (by decide) ?_
        refine r_ldc2 C (v := 1000000) kl_X12_225 dX12_contract_67 ?_
        refine V.el (y := lN 1000000) (by decide) ?_
        refine r_callV C hgX (ci := 14) ml_X12_191 im_X12_in se_X12_in rfl rfl hm.k (c_X12_in l hfl G M mb u.toInt64 (lN 0) (lN 1000000)) rfl (Nat.le_of_ble_eq_true rfl) ⟨Nat.le_of_ble_eq_true rfl, Nat.le_of_ble_eq_true rfl⟩ ⟨Nat.le_of_ble_eq_true rfl, Nat.le_of_ble_eq_true rfl⟩ dX12_contract_70 rfl ?_
        rintro _ _ ⟨rfl, rfl⟩
        refine V.eSt (st' := [.int (bI (decide ((lN 0) ≤ u.toInt64 ∧ u.toInt64 ≤ (lN 1000000))))]) rfl ?_
        refine V.ei (y := bI (inB u (lN 0) (lN 1000000))) rfl ?_
        refine r_if_eqB C (t := 80) dX12_contract_73 (by decide) (fun c73 => ?_) (fun c73 => ?_)
        · skip
          refine r_iconst C (v := nI 0) dX12_contract_80 (by decide) ?_
          refine V.eSt (st' := [.int (bI false)]) rfl ?_
          refine V.ei (y := bI (decide (z ≤ t) && inB n (lN 60) (lN 600) && inB u (lN 0) (lN 1000000))) (congrArg bI (by simp only [decide_eq_true (Int32.not_lt.mp c43), c59, c73] <;> rfl)) ?_
          exact jn81
        · skip
          refine r_iconst C (v := nI 1) dX12_contract_76 (by decide) ?_
          refine r_goto C (t := 81) dX12_contract_77 (by decide) ?_
          refine V.eSt (st' := [.int (bI true)]) rfl ?_
          refine V.ei (y := bI (decide (z ≤ t) && inB n (lN 60) (lN 600) && inB u (lN 0) (lN 1000000))) (congrArg bI (by simp only [decide_eq_true (Int32.not_lt.mp c43), c59, c73] <;> rfl)) ?_
          exact jn81
  refine r_aload_n C 0 dX12_contract_0 rfl rfl ?_
  refine r_iload_n C 1 dX12_contract_1 rfl rfl ?_
  refine r_callV C hgX (ci := 14) ml_X12_212 im_X12_isPerson se_X12_isPerson rfl rfl hm.k (c_X12_isPerson l hfl G M mb hm x) rfl (Nat.le_of_ble_eq_true rfl) ⟨Nat.le_of_ble_eq_true rfl, Nat.le_of_ble_eq_true rfl⟩ ⟨Nat.le_of_ble_eq_true rfl, Nat.le_of_ble_eq_true rfl⟩ dX12_contract_2 rfl ?_
  rintro _ _ ⟨rfl, rfl⟩
  refine V.eSt (st' := [.int (bI (rng x 6))]) rfl ?_
  refine r_if_eqB C (t := 37) dX12_contract_5 (by decide) (fun c5 => ?_) (fun c5 => ?_)
  · skip
    refine r_iconst C (v := nI 0) dX12_contract_37 (by decide) ?_
    refine V.eSt (st' := [.int (bI false)]) rfl ?_
    refine V.ei (y := bI (rng x 6 && rng y 3 && rng z 720 && rng t 720)) (congrArg bI (by simp only [c5] <;> rfl)) ?_
    exact jn38
  · skip
    refine r_aload_n C 0 dX12_contract_8 rfl rfl ?_
    refine r_iload_n C 2 dX12_contract_9 rfl rfl ?_
    refine r_callV C hgX (ci := 14) ml_X12_215 im_X12_isPlace se_X12_isPlace rfl rfl hm.k (c_X12_isPlace l hfl G M mb hm y) rfl (Nat.le_of_ble_eq_true rfl) ⟨Nat.le_of_ble_eq_true rfl, Nat.le_of_ble_eq_true rfl⟩ ⟨Nat.le_of_ble_eq_true rfl, Nat.le_of_ble_eq_true rfl⟩ dX12_contract_10 rfl ?_
    rintro _ _ ⟨rfl, rfl⟩
    refine V.eSt (st' := [.int (bI (rng y 3))]) rfl ?_
    refine r_if_eqB C (t := 37) dX12_contract_13 (by decide) (fun c13 => ?_) (fun c13 => ?_)
    · skip
      refine r_iconst C (v := nI 0) dX12_contract_37 (by decide) ?_
      refine V.eSt (st' := [.int (bI false)]) rfl ?_
      refine V.ei (y := bI (rng x 6 && rng y 3 && rng z 720 && rng t 720)) (congrArg bI (by simp only [c5, c13] <;> rfl)) ?_
      exact jn38
    · skip
      refine r_aload_n C 0 dX12_contract_16 rfl rfl ?_
      refine r_iload_n C 3 dX12_contract_17 rfl rfl ?_
      refine r_callV C hgX (ci := 14) ml_X12_218 im_X12_isDay se_X12_isDay rfl rfl hm.k (c_X12_isDay l hfl G M mb hm z) rfl (Nat.le_of_ble_eq_true rfl) ⟨Nat.le_of_ble_eq_true rfl, Nat.le_of_ble_eq_true rfl⟩ ⟨Nat.le_of_ble_eq_true rfl, Nat.le_of_ble_eq_true rfl⟩ dX12_contract_18 rfl ?_
      rintro _ _ ⟨rfl, rfl⟩
      refine V.eSt (st' := [.int (bI (rng z 720))]) rfl ?_
      refine r_if_eqB C (t := 37) dX12_contract_21 (by decide) (fun c21 => ?_) (fun c21 => ?_)
      · skip
        refine r_iconst C (v := nI 0) dX12_contract_37 (by decide) ?_
        refine V.eSt (st' := [.int (bI false)]) rfl ?_
        refine V.ei (y := bI (rng x 6 && rng y 3 && rng z 720 && rng t 720)) (congrArg bI (by simp only [c5, c13, c21] <;> rfl)) ?_
        exact jn38
      · skip
        refine r_aload_n C 0 dX12_contract_24 rfl rfl ?_
        refine r_iload C 4 dX12_contract_25 rfl ?_
        refine r_callV C hgX (ci := 14) ml_X12_218 im_X12_isDay se_X12_isDay rfl rfl hm.k (c_X12_isDay l hfl G M mb hm t) rfl (Nat.le_of_ble_eq_true rfl) ⟨Nat.le_of_ble_eq_true rfl, Nat.le_of_ble_eq_true rfl⟩ ⟨Nat.le_of_ble_eq_true rfl, Nat.le_of_ble_eq_true rfl⟩ dX12_contract_27 rfl ?_
        rintro _ _ ⟨rfl, rfl⟩
        refine V.eSt (st' := [.int (bI (rng t 720))]) rfl ?_
        refine r_if_eqB C (t := 37) dX12_contract_30 (by decide) (fun c30 => ?_) (fun c30 => ?_)
        · skip
          refine r_iconst C (v := nI 0) dX12_contract_37 (by decide) ?_
          refine V.eSt (st' := [.int (bI false)]) rfl ?_
          refine V.ei (y := bI (rng x 6 && rng y 3 && rng z 720 && rng t 720)) (congrArg bI (by simp only [c5, c13, c21, c30] <;> rfl)) ?_
          exact jn38
        · skip
          refine r_iconst C (v := nI 1) dX12_contract_33 (by decide) ?_
          refine r_goto C (t := 38) dX12_contract_34 (by decide) ?_
          refine V.eSt (st' := [.int (bI true)]) rfl ?_
          refine V.ei (y := bI (rng x 6 && rng y 3 && rng z 720 && rng t 720)) (congrArg bI (by simp only [c5, c13, c21, c30] <;> rfl)) ?_
          exact jn38
