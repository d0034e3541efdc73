/-! THE CLASS: its leaves -/
def rdF (x y : Int64) : Int64 := if lN 0 < y then fdvL (lN 2 * x + y) (lN 2 * y) else lN 0
def rdD (x y : Int64) : Int64 := if lN 0 < y then fdvL x y else lN 0
theorem lN_pos {b : Nat} (h0 : 0 < b) (hb : b < 2 ^ 63) : 0 < (lN b).toInt := by rw [pk_lT hb]; omega
theorem rdF_rnd {x : Int64} {b : Nat} (h0 : 0 < b) (hb : b < 2 ^ 62) : rdF x (lN b) = rndL x (lN b) := by
  unfold rdF rndL
  rw [if_pos ((pk_lLT (by decide) (by omega)).mpr h0), lN_mul, fdv_dwn (lN_pos (by omega) (by omega))]
  rw [show (2 : Int64) = lN 2 from rfl, lN_mul]
theorem rdD_dwn {x : Int64} {b : Nat} (h0 : 0 < b) (hb : b < 2 ^ 63) : rdD x (lN b) = dwnL x (lN b) := by
  unfold rdD
  rw [if_pos ((pk_lLT (by decide) (by omega)).mpr h0), fdv_dwn (lN_pos (by omega) (by omega))]
/-- a Steps of n: its numbers, its marks -/
def StO (M : Mem) (a h t n : Nat) : Prop := mK M a = 13 ∧ mR M a 0 = some h ∧ mR M a 1 = some t ∧ mK M h = 20 ∧ mN M h = n ∧ mK M t = 22 ∧ mN M t = n

set_option maxHeartbeats 4000000 in
set_option maxRecDepth 100000 in
theorem c_X2_rounded (l : Launch) (hfl : l.flags = flags0) (G : gW) (M : Mem) (x : Int64) (b : Nat) (hb : b < 2 ^ 62) : CT l yX2_rounded cX2_rounded 4 (some .long) 1 0 0 30 G M [.long x, .long (lN b)] (fun v M' => v = some (.long (rdF x (lN b))) ∧ M = M') := by
  refine CT.of hfl rfl (Nat.le_of_ble_eq_true rfl) ?_
  intro pp ee ss mm ar bw mt cd C hgX hr hini
  refine V.eLo (lo' := [(0, .long x), (2, .long (lN b))]) rfl ?_
  refine r_lload_n C 1 dX2_rounded_0 rfl rfl ?_
  refine r_lconst C (v := lN 0) dX2_rounded_1 (by decide) ?_
  refine r_lcmp_gtN C (t := 10) (by omega) (by omega) dX2_rounded_2 dX2_rounded_3 (by decide) (fun c3 => ?_) (fun c3 => ?_)
  · skip
    refine r_ldc2 C (v := 2) kl_X2_7 dX2_rounded_10 ?_
    refine V.el (y := lN 2) (by decide) ?_
    refine r_lload_n C 0 dX2_rounded_13 rfl rfl ?_
    refine r_lmul C dX2_rounded_14 ?_
    refine r_lload_n C 1 dX2_rounded_15 rfl rfl ?_
    refine r_ladd C dX2_rounded_16 ?_
    refine r_ldc2 C (v := 2) kl_X2_7 dX2_rounded_17 ?_
    refine V.el (y := lN 2) (by decide) ?_
    refine r_lload_n C 1 dX2_rounded_20 rfl rfl ?_
    refine r_lmulN C dX2_rounded_21 ?_
    refine r_fdiv C kd_X2_9 (lN_ne0 (by omega) (by omega)) (Nat.le_of_ble_eq_true rfl) (Nat.le_of_ble_eq_true rfl) (by first | exact Nat.zero_le _ | decide) (by first | exact Nat.zero_le _ | decide) dX2_rounded_22 ?_
    exact r_lret C hr (⟨by unfold rdF; rw [if_pos ((pk_lLT (by decide) (by omega)).mpr (by omega)), lN_mul], rfl⟩) (by first | exact Nat.zero_le _ | decide) (by first | exact Nat.zero_le _ | decide) dX2_rounded_25
  · skip
    refine r_lconst C (v := lN 0) dX2_rounded_6 (by decide) ?_
    refine r_goto C (t := 25) dX2_rounded_7 (by decide) ?_
    exact r_lret C hr (⟨by unfold rdF; rw [if_neg (fun q => by have := (pk_lLT (by decide) (by omega)).mp q; omega)], rfl⟩) (by first | exact Nat.zero_le _ | decide) (by first | exact Nat.zero_le _ | decide) dX2_rounded_25
set_option maxHeartbeats 4000000 in
set_option maxRecDepth 100000 in
theorem c_X2_roundedDown (l : Launch) (hfl : l.flags = flags0) (G : gW) (M : Mem) (x : Int64) (b : Nat) (hb : b < 2 ^ 62) : CT l yX2_roundedDown cX2_roundedDown 4 (some .long) 1 0 0 30 G M [.long x, .long (lN b)] (fun v M' => v = some (.long (rdD x (lN b))) ∧ M = M') := by
  refine CT.of hfl rfl (Nat.le_of_ble_eq_true rfl) ?_
  intro pp ee ss mm ar bw mt cd C hgX hr hini
  refine V.eLo (lo' := [(0, .long x), (2, .long (lN b))]) rfl ?_
  refine r_lload_n C 1 dX2_roundedDown_0 rfl rfl ?_
  refine r_lconst C (v := lN 0) dX2_roundedDown_1 (by decide) ?_
  refine r_lcmp_gtN C (t := 10) (by omega) (by omega) dX2_roundedDown_2 dX2_roundedDown_3 (by decide) (fun c3 => ?_) (fun c3 => ?_)
  · skip
    refine r_lload_n C 0 dX2_roundedDown_10 rfl rfl ?_
    refine r_lload_n C 1 dX2_roundedDown_11 rfl rfl ?_
    refine r_fdiv C kd_X2_9 (lN_ne0 (by omega) (by omega)) (Nat.le_of_ble_eq_true rfl) (Nat.le_of_ble_eq_true rfl) (by first | exact Nat.zero_le _ | decide) (by first | exact Nat.zero_le _ | decide) dX2_roundedDown_12 ?_
    exact r_lret C hr (⟨by unfold rdD; rw [if_pos ((pk_lLT (by decide) (by omega)).mpr (by omega))], rfl⟩) (by first | exact Nat.zero_le _ | decide) (by first | exact Nat.zero_le _ | decide) dX2_roundedDown_15
  · skip
    refine r_lconst C (v := lN 0) dX2_roundedDown_6 (by decide) ?_
    refine r_goto C (t := 15) dX2_roundedDown_7 (by decide) ?_
    exact r_lret C hr (⟨by unfold rdD; rw [if_neg (fun q => by have := (pk_lLT (by decide) (by omega)).mp q; omega)], rfl⟩) (by first | exact Nat.zero_le _ | decide) (by first | exact Nat.zero_le _ | decide) dX2_roundedDown_15
set_option maxHeartbeats 4000000 in
set_option maxRecDepth 100000 in
theorem c_X10_at (l : Launch) (hfl : l.flags = flags0) (G : gW) (M : Mem) (a h t n k : Nat) (ho : StO M a h t n) (hn : n < 2 ^ 30) (hk : k < n) : CT l yX10_at cX10_at 2 (some .int) 0 0 0 0 G M [.ref a, .int (nI k)] (fun v M' => v = some (.int (mI M h k)) ∧ M = M') := by
  refine CT.of hfl rfl (Nat.le_of_ble_eq_true rfl) ?_
  intro pp ee ss mm ar bw mt cd C hgX hr hini
  refine V.eLo (lo' := [(0, .ref a), (1, .int (nI k))]) rfl ?_
  refine r_iload_n C 1 dX10_at_0 rfl rfl ?_
  refine r_if_ltN C (t := 13) (by omega) dX10_at_1 (by decide) ?_
  refine r_iload_n C 1 dX10_at_4 rfl rfl ?_
  refine r_aload_n C 0 dX10_at_5 rfl rfl ?_
  refine r_getR C (b := h) fl_X10_13 rfl ho.1 ho.2.1 dX10_at_6 ?_
  refine r_alen C (v := nI n) 0 (by decide) ho.2.2.2.1 (by rw [show mN _ _ = _ from ho.2.2.2.2.1]; rfl) dX10_at_9 ?_
  refine r_icmp_ltN C (t := 17) (by omega) (by omega) dX10_at_10 (by decide) (fun c10 => ?_) (fun c10 => ?_)
  · skip
    refine r_aload_n C 0 dX10_at_17 rfl rfl ?_
    refine r_getR C (b := h) fl_X10_13 rfl ho.1 ho.2.1 dX10_at_18 ?_
    refine r_iload_n C 1 dX10_at_21 rfl rfl ?_
    refine r_ialoadN C ho.2.2.2.1 ho.2.2.2.2.1 (by omega) (by omega) dX10_at_22 ?_
    exact r_iret C hr (⟨rfl, rfl⟩) (by first | exact Nat.zero_le _ | decide) (by first | exact Nat.zero_le _ | decide) dX10_at_23
  · exact absurd hk (by omega)

