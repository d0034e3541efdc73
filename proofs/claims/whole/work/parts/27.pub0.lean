/-! THE REFERENCE: the public methods -/
def inB (x : Int32) (a b : Int64) : Bool := decide (a ≤ x.toInt64 ∧ x.toInt64 ≤ b)
theorem inB_N {x : Int32} {a b : Nat} (ha : a < 2 ^ 31) (hb : b < 2 ^ 31) (h : inB x (lN a) (lN b) = true) : ∃ n, a ≤ n ∧ n ≤ b ∧ x = nI n := by
  have h1 := of_decide_eq_true h
  rw [Int64.le_iff_toInt_le, Int64.le_iff_toInt_le, Int32.toInt_toInt64, pk_lT (by omega), pk_lT (by omega)] at h1
  have h3 : ¬ x < 0 := by rw [Int32.lt_iff_toInt_lt, Int32.toInt_zero]; omega
  obtain ⟨j, hj, rfl⟩ := nI_of h3
  rw [nI_toInt hj] at h1
  exact ⟨j, by omega, by omega, rfl⟩
def cd1 (a : Bool) : Nat := if a = true then 0 else 1
def cd2 (a b : Bool) : Nat := if a = true then (if b = true then 0 else 2) else 1
def cd3 (a b c : Bool) : Nat := if a = true then (if b = true then (if c = true then 0 else 3) else 2) else 1
theorem cd1_0 {a : Bool} (h : cd1 a = 0) : a = true := by cases a <;> first | rfl | exact absurd h (by decide)
theorem cd2_0 {a b : Bool} (h : cd2 a b = 0) : a = true ∧ b = true := by cases a <;> cases b <;> first | exact ⟨rfl, rfl⟩ | exact absurd h (by decide)
theorem cd3_0 {a b c : Bool} (h : cd3 a b c = 0) : a = true ∧ b = true ∧ c = true := by cases a <;> cases b <;> cases c <;> first | exact ⟨rfl, rfl, rfl⟩ | exact absurd h (by decide)
theorem cd1_le (a : Bool) : cd1 a ≤ 3 := by cases a <;> decide
theorem cd2_le (a b : Bool) : cd2 a b ≤ 3 := by cases a <;> cases b <;> decide
theorem cd3_le (a b c : Bool) : cd3 a b c ≤ 3 := by cases a <;> cases b <;> cases c <;> decide
theorem hold_d {C : Nat} (h : C ≤ 3) : decide (0 < nI C) = decide (C ≠ 0) := decide_eq_decide.mpr (by
  rw [show (0 : Int32) = nI 0 from rfl, nI_ltI (by omega) (by omega)]; omega)
theorem LTB.fo {L : List Nat} {mb : Nat} {M M' : Mem} (h : LTB M mb) (g : fOut L mb M M') (hL : (!L.contains 16) = true) : LTB M' mb := by
  obtain ⟨lt, hl⟩ := h
  exact ⟨lt, fun k hk => by rw [g.i 16 (by rw [show decide (16 < 70) = true from rfl, hL]; rfl)]; exact hl k hk⟩
def sI (τ : Mu) (k x : Nat) (v : Int32) : Mu := (up2 τ.1 k x v, τ.2)
def sL (τ : Mu) (k x : Nat) (v : Int64) : Mu := (τ.1, up2 τ.2 k x v)
/-- a public call: its code, what it answers if the code is 0, and what is told then -/
def PP (mb : Nat) (M : Mem) (τ : Mu) (C : Nat) (U : Mu) (R : Option Value) (v : Option Value) (M' : Mem) : Prop := mI M' mb 67 = nI C ∧ mOut mb M M' ∧ LTB M' mb ∧ (C ≠ 0 → TE (mI M') (mL M') mb τ) ∧ (C = 0 → v = R ∧ TE (mI M') (mL M') mb U)

set_option maxHeartbeats 4000000 in
set_option maxRecDepth 100000 in
theorem c_X12_minutes (l : Launch) (hfl : l.flags = flags0) (G : gW) (M : Mem) (mb : Nat) (τ : Mu) (hm : MOK (mK M) (mN M) (mR M) mb) (ht : TE (mI M) (mL M) mb τ) (hw : WF τ) (hlb : LTB M mb) (x y : Int32) : CT l yX12_minutes cX12_minutes 3 (some .int) 2 0 0 47 G M [.ref mb, .int x, .int y] (fun v M' => PP mb M τ (cd1 (rng x (un τ 9 9) && rng y 720)) (τ) (some (.int (τ.1 8 (720 * x.toNatClampNeg + y.toNatClampNeg)))) v M') := by
  refine CT.of hfl rfl (Nat.le_of_ble_eq_true rfl) ?_
  intro pp ee ss mm ar bw mt cd C hgX hr hini
  have hnc := hw.nc.2
  have hsh := hw.sh.2
  have hnl := hw.nl.2
  have hne := hw.ne.2
  have hng := hw.ng.2
  have hop := hw.op.2
  have hnp := hw.np.2
  have ht0 := ht
  have hm0 := hm
  have hfo := fOut.rf [67] mb M
  refine V.eLo (lo' := [(0, .ref mb), (1, .int x), (2, .int y)]) rfl ?_
  refine r_aload_n C 0 dX12_minutes_0 rfl rfl ?_
  have jn22 : V pp l ee ({ frames := 2, cells := 0, slots := 0, locals := 47 } : Room) ss mm ar bw mt cd G (MQ bw (Ke G (fun v M' => PP mb M τ (cd1 (rng x (un τ 9 9) && rng y 720)) (τ) (some (.int (τ.1 8 (720 * x.toNatClampNeg + y.toNatClampNeg)))) v M')) ar ss 0 0 (gA G)) 3 M 0 0 22 [(0, .ref mb), (1, .int x), (2, .int y)] [.int (nI (cd1 (rng x (un τ 9 9) && rng y 720))), .ref mb] := by
    skip
    refine r_callV C hgX (ci := 14) ml_X12_227 im_X12_holds se_X12_holds rfl rfl hm.k (c_X12_holds l hfl G M mb hm (nI (cd1 (rng x (un τ 9 9) && rng y 720)))) rfl (Nat.le_of_ble_eq_true rfl) ⟨Nat.le_of_ble_eq_true rfl, Nat.le_of_ble_eq_true rfl⟩ ⟨Nat.le_of_ble_eq_true rfl, Nat.le_of_ble_eq_true rfl⟩ dX12_minutes_22 rfl ?_
    rintro _ _ ⟨rfl, rfl⟩
    refine V.eSt (st' := [.int (bI (decide (0 < nI (cd1 (rng x (un τ 9 9) && rng y 720)))))]) rfl ?_
    refine V.ei (y := bI (decide ((cd1 (rng x (un τ 9 9) && rng y 720)) ≠ 0))) (congrArg bI (hold_d (cd1_le _))) ?_
    have hfo := hfo.set0 67 (nI (cd1 (rng x (un τ 9 9) && rng y 720))) rfl
    have ht := ht.ws 67 (nI (cd1 (rng x (un τ 9 9) && rng y 720))) rfl rfl
    have h67 : mI (wI M mb 67 (nI (cd1 (rng x (un τ 9 9) && rng y 720)))) mb 67 = nI (cd1 (rng x (un τ 9 9) && rng y 720)) := up2_same _ _ _ _
    refine r_if_eqB C (t := 32) dX12_minutes_25 (by decide) (fun c25 => ?_) (fun c25 => ?_)
    · skip
      have c25d := of_decide_eq_false c25
      have hC : (cd1 (rng x (un τ 9 9) && rng y 720)) = 0 := by have := c25d; omega
      obtain ⟨hx, hy⟩ := Bool.and_eq_true_iff.mp (cd1_0 hC)
      obtain ⟨c, hc, rfl⟩ := rng_t hx
      obtain ⟨d, hd, rfl⟩ := rng_t hy
      rw [nI_clamp (by omega), nI_clamp (by omega)]
      refine r_aload_n C 0 dX12_minutes_32 rfl rfl ?_
      refine r_getR C (b := (ma mb 8)) fl_X12_34 rfl hm.k (hm.r 8 rfl) dX12_minutes_33 ?_
      refine r_sipush C (v := nI 720) dX12_minutes_36 (by decide) ?_
      refine r_iload_n C 1 dX12_minutes_39 rfl rfl ?_
      refine r_imulN C dX12_minutes_40 ?_
      refine r_iload_n C 2 dX12_minutes_41 rfl rfl ?_
      refine r_iaddN C dX12_minutes_42 ?_
      refine r_ialoadN C (hm.i 8 20 rfl) (hm.n 8 7200 rfl) (by omega) (by omega) dX12_minutes_43 ?_
      refine V.ei (y := τ.1 8 (720 * c + d)) (ht.i 8 rfl _) ?_
      exact r_iret C hr (⟨h67, hfo.mo, hlb.fo hfo rfl, fun q => absurd hC q, fun _ => ⟨rfl, ht⟩⟩) (by first | exact Nat.zero_le _ | decide) (by first | exact Nat.zero_le _ | decide) dX12_minutes_44
    · skip
      have c25d := of_decide_eq_true c25
      have hC : (cd1 (rng x (un τ 9 9) && rng y 720)) ≠ 0 := c25d
      refine r_iconst C (v := (-1)) dX12_minutes_28 (by decide) ?_
      refine r_goto C (t := 44) dX12_minutes_29 (by decide) ?_
      exact r_iret C hr (⟨h67, hfo.mo, hlb.fo hfo rfl, fun _ => ht, fun q => absurd q hC⟩) (by first | exact Nat.zero_le _ | decide) (by first | exact Nat.zero_le _ | decide) dX12_minutes_44
  refine r_aload_n C 0 dX12_minutes_1 rfl rfl ?_
  refine r_iload_n C 1 dX12_minutes_2 rfl rfl ?_
  refine r_callV C hgX (ci := 14) ml_X12_204 im_X12_isContract se_X12_isContract rfl rfl hm.k (c_X12_isContract l hfl G M mb τ hm ht hw x) rfl (Nat.le_of_ble_eq_true rfl) ⟨Nat.le_of_ble_eq_true rfl, Nat.le_of_ble_eq_true rfl⟩ ⟨Nat.le_of_ble_eq_true rfl, Nat.le_of_ble_eq_true rfl⟩ dX12_minutes_3 rfl ?_
  rintro _ _ ⟨rfl, rfl⟩
  refine V.eSt (st' := [.int (bI (rng x (un τ 9 9))), .ref mb]) rfl ?_
  refine r_if_eqB C (t := 21) dX12_minutes_6 (by decide) (fun c6 => ?_) (fun c6 => ?_)
  · skip
    refine r_iconst C (v := nI 1) dX12_minutes_21 (by decide) ?_
    refine V.ei (y := nI (cd1 (rng x (un τ 9 9) && rng y 720))) (congrArg nI (by simp only [c6] <;> rfl)) ?_
    exact jn22
  · skip
    refine r_aload_n C 0 dX12_minutes_9 rfl rfl ?_
    refine r_iload_n C 2 dX12_minutes_10 rfl rfl ?_
    refine r_callV C hgX (ci := 14) ml_X12_218 im_X12_isDay se_X12_isDay rfl rfl hm.k (c_X12_isDay l hfl G M mb hm y) rfl (Nat.le_of_ble_eq_true rfl) ⟨Nat.le_of_ble_eq_true rfl, Nat.le_of_ble_eq_true rfl⟩ ⟨Nat.le_of_ble_eq_true rfl, Nat.le_of_ble_eq_true rfl⟩ dX12_minutes_11 rfl ?_
    rintro _ _ ⟨rfl, rfl⟩
    refine V.eSt (st' := [.int (bI (rng y 720)), .ref mb]) rfl ?_
    refine r_if_eqB C (t := 21) dX12_minutes_14 (by decide) (fun c14 => ?_) (fun c14 => ?_)
    · skip
      refine r_iconst C (v := nI 1) dX12_minutes_21 (by decide) ?_
      refine V.ei (y := nI (cd1 (rng x (un τ 9 9) && rng y 720))) (congrArg nI (by simp only [c6, c14] <;> rfl)) ?_
      exact jn22
    · skip
      refine r_iconst C (v := nI 0) dX12_minutes_17 (by decide) ?_
      refine r_goto C (t := 22) dX12_minutes_18 (by decide) ?_
      refine V.ei (y := nI (cd1 (rng x (un τ 9 9) && rng y 720))) (congrArg nI (by simp only [c6, c14] <;> rfl)) ?_
      exact jn22
