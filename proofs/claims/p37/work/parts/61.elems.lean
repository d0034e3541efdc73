/-! THE CLASS: switches, elements' leaves -/
section RowsK
variable {p : Program} {l : Launch} {e : Env} {R : Room} {s : State} {m : MethodId} {args : Array Value} {below : List Frame} {meth : Method} {c : Code} {G : gW} {own : String} {cc : ByteArray} {Q : State → Prop} {nL : Nat} {M : Mem} {cells slots pc : Nat} {lo : List (Nat × Value)} {st : List Value}
theorem r_look (Cc : Cx p l s m args meth c G own cc nL) {dflt : Int} {ps : Array (Int × Int)} {len : Nat} {x : Int32} {off : Int} {t : Nat} (hd : decode cc pc = .ok (.lookupswitch dflt ps, len)) (hp : (ps.toList.zip (ps.toList.drop 1)).all (fun (a, next) => a.1 < next.1) = true) (ho : Op.lookupswitch.offset ps.toList dflt x.toInt = off) (ht : (pc : Int) + off = (t : Int))
    (kk : V p l e R s m args below meth c G Q nL M cells slots t lo st) : V p l e R s m args below meth c G Q nL M cells slots pc lo (.int x :: st) :=
  fun H locs ls h1 h2 h3 => lv_lookup Cc.1 Cc.2.1 hd hp ho ht (kk H locs ls h1 h2 h3)
end RowsK
theorem lmx_kept (v : Int64) : lmax (-100000000) (lmin (lN 100000000) v) = keptL v := by
  unfold lmax lmin keptL
  have e1 : (lN 100000000).toInt = 100000000 := pk_lT (by decide)
  have e2 : (-100000000 : Int64).toInt = -100000000 := by decide
  have s1 : ∀ a b : Int64, a < b ↔ a.toInt < b.toInt := fun a b => Int64.lt_iff_toInt_lt
  by_cases h : v < lN 100000000
  · rw [if_pos h, if_neg (show ¬ lN 100000000 < v by rw [s1] at *; omega)]
  · rw [if_neg h, if_neg (show ¬ lN 100000000 < -100000000 by rw [s1, e1, e2]; decide)]
    by_cases h2 : lN 100000000 < v
    · rw [if_pos h2]
    · rw [if_neg h2, if_neg (show ¬ v < -100000000 by rw [s1] at *; omega), ← Int64.toInt_inj]; rw [s1] at *; omega
theorem tb_t {S a : Nat} (h : S / 2 ^ a &&& 1 = 1) : S.testBit a = true := by
  rw [Nat.testBit_eq_decide_div_mod_eq, ← Nat.and_one_is_mod, h]; rfl
theorem tb_f {S a : Nat} (h : ¬ (S / 2 ^ a &&& 1 = 1)) : S.testBit a = false := by
  rw [Nat.testBit_eq_decide_div_mod_eq, ← Nat.and_one_is_mod]
  exact decide_eq_false h
set_option maxHeartbeats 4000000 in
set_option maxRecDepth 100000 in
theorem c_X4_isIn (l : Launch) (hfl : l.flags = flags0) (G : gW) (M : Mem) (a S : Nat) (ha : a < 31) (hS : S < 2 ^ 31) : CT l yX4_isIn cX4_isIn 2 (some .boolean) 0 0 0 0 G M [.int (nI a), .int (nI S)] (fun v M' => v = some (.int (bI (S.testBit a))) ∧ M = M') := by
  refine CT.of hfl rfl (Nat.le_of_ble_eq_true rfl) ?_
  intro pp ee ss mm ar bw mt cd C hgX hr hini
  refine V.eLo (lo' := [(0, .int (nI a)), (1, .int (nI S))]) rfl ?_
  refine r_iload_n C 1 dX4_isIn_0 rfl rfl ?_
  refine r_iload_n C 0 dX4_isIn_1 rfl rfl ?_
  refine r_ishr C dX4_isIn_2 ?_
  refine V.ei (y := nI (S / 2 ^ a)) (nI_shr (by omega) (by omega)) ?_
  refine r_iconst C (v := nI 1) dX4_isIn_3 (by decide) ?_
  refine r_iand C dX4_isIn_4 ?_
  refine V.ei (y := nI ((S / 2 ^ a) &&& 1)) (nI_and (by exact Nat.lt_of_le_of_lt (Nat.div_le_self _ _) hS) (by omega)) ?_
  refine r_iconst C (v := nI 1) dX4_isIn_5 (by decide) ?_
  refine r_icmp_neN C (t := 13) (by exact Nat.lt_of_le_of_lt Nat.and_le_right (by decide)) (by omega) dX4_isIn_6 (by decide) (fun c6 => ?_) (fun c6 => ?_)
  · skip
    refine r_iconst C (v := nI 0) dX4_isIn_13 (by decide) ?_
    exact r_zret C hr (by decide) (⟨by rw [tb_f (by omega)]; rfl, rfl⟩) (by first | exact Nat.zero_le _ | decide) (by first | exact Nat.zero_le _ | decide) dX4_isIn_14
  · skip
    refine r_iconst C (v := nI 1) dX4_isIn_9 (by decide) ?_
    refine r_goto C (t := 14) dX4_isIn_10 (by decide) ?_
    exact r_zret C hr (by decide) (⟨by rw [tb_t (by omega)]; rfl, rfl⟩) (by first | exact Nat.zero_le _ | decide) (by first | exact Nat.zero_le _ | decide) dX4_isIn_14
set_option maxHeartbeats 4000000 in
set_option maxRecDepth 100000 in
theorem c_X4_bounded (l : Launch) (hfl : l.flags = flags0) (G : gW) (M : Mem) (x : Int64) : CT l yX4_bounded cX4_bounded 2 (some .long) 1 0 0 30 G M [.long x] (fun v M' => v = some (.long (keptL x)) ∧ M = M') := by
  refine CT.of hfl rfl (Nat.le_of_ble_eq_true rfl) ?_
  intro pp ee ss mm ar bw mt cd C hgX hr hini
  refine V.eLo (lo' := [(0, .long x)]) rfl ?_
  refine r_ldc2 C (v := (-100000000)) kl_X4_97 dX4_bounded_0 ?_
  refine r_ldc2 C (v := 100000000) kl_X4_99 dX4_bounded_3 ?_
  refine V.el (y := lN 100000000) (by decide) ?_
  refine r_lload_n C 0 dX4_bounded_6 rfl rfl ?_
  refine r_minL C km_X4_92 (Nat.le_of_ble_eq_true rfl) (Nat.le_of_ble_eq_true rfl) (by first | exact Nat.zero_le _ | decide) (by first | exact Nat.zero_le _ | decide) dX4_bounded_7 ?_
  refine r_maxL C km_X4_95 (Nat.le_of_ble_eq_true rfl) (Nat.le_of_ble_eq_true rfl) (by first | exact Nat.zero_le _ | decide) (by first | exact Nat.zero_le _ | decide) dX4_bounded_10 ?_
  exact r_lret C hr (⟨by rw [lmx_kept], rfl⟩) (by first | exact Nat.zero_le _ | decide) (by first | exact Nat.zero_le _ | decide) dX4_bounded_13
theorem lmin_c (a b : Int64) : lmin a b = if a < b then a else b := by
  unfold lmin
  by_cases h : b < a
  · rw [if_pos h, if_neg (show ¬ a < b by rw [Int64.lt_iff_toInt_lt] at *; omega)]
  · rw [if_neg h]
    by_cases h2 : a < b
    · rw [if_pos h2]
    · rw [if_neg h2, ← Int64.toInt_inj]; rw [Int64.lt_iff_toInt_lt] at h h2; omega
theorem lmax_c (a b : Int64) : lmax a b = if b < a then a else b := rfl
set_option maxHeartbeats 4000000 in
set_option maxRecDepth 100000 in
theorem c_X4_joined (l : Launch) (hfl : l.flags = flags0) (G : gW) (M : Mem) (w : Nat) (a b : Int64) (h4 : 4 ≤ w) (h9 : w ≤ 9) : CT l yX4_joined cX4_joined 5 (some .long) 2 0 0 53 G M [.int (nI w), .long a, .long b] (fun v M' => v = some (.long (joinL w a b)) ∧ M = M') := by
  refine CT.of hfl rfl (Nat.le_of_ble_eq_true rfl) ?_
  intro pp ee ss mm ar bw mt cd C hgX hr hini
  refine V.eLo (lo' := [(0, .int (nI w)), (1, .long a), (3, .long b)]) rfl ?_
  refine r_iload_n C 0 dX4_joined_0 rfl rfl ?_
  rcases (show w = 4 ∨ w = 5 ∨ w = 6 ∨ w = 7 ∨ w = 8 ∨ w = 9 from by omega) with sw1 | sw1 | sw1 | sw1 | sw1 | sw1
  · skip
    refine V.ei (y := nI 4) (congrArg nI sw1) ?_
    refine r_tabIn C (off := 35) (t := 36) dX4_joined_1 (by decide) (by decide) (by decide) (by decide) ?_
    refine r_lload_n C 1 dX4_joined_36 rfl rfl ?_
    refine r_lload_n C 2 dX4_joined_37 rfl rfl ?_
    refine r_ladd C dX4_joined_38 ?_
    exact r_lret C hr (⟨by refine congrArg (fun z => some (Value.long z)) ?_; unfold joinL; rw [if_pos sw1], rfl⟩) (by first | exact Nat.zero_le _ | decide) (by first | exact Nat.zero_le _ | decide) dX4_joined_39
  · skip
    refine V.ei (y := nI 5) (congrArg nI sw1) ?_
    refine r_tabIn C (off := 39) (t := 40) dX4_joined_1 (by decide) (by decide) (by decide) (by decide) ?_
    refine r_lload_n C 1 dX4_joined_40 rfl rfl ?_
    refine r_lload_n C 2 dX4_joined_41 rfl rfl ?_
    refine r_lsub C dX4_joined_42 ?_
    exact r_lret C hr (⟨by refine congrArg (fun z => some (Value.long z)) ?_; unfold joinL; rw [if_neg (show ¬ w = 4 by omega), if_pos sw1], rfl⟩) (by first | exact Nat.zero_le _ | decide) (by first | exact Nat.zero_le _ | decide) dX4_joined_43
  · skip
    refine V.ei (y := nI 6) (congrArg nI sw1) ?_
    refine r_tabIn C (off := 43) (t := 44) dX4_joined_1 (by decide) (by decide) (by decide) (by decide) ?_
    refine r_lload_n C 1 dX4_joined_44 rfl rfl ?_
    refine r_lload_n C 2 dX4_joined_45 rfl rfl ?_
    refine r_lmul C dX4_joined_46 ?_
    exact r_lret C hr (⟨by refine congrArg (fun z => some (Value.long z)) ?_; unfold joinL; rw [if_neg (show ¬ w = 4 by omega), if_neg (show ¬ w = 5 by omega), if_pos sw1], rfl⟩) (by first | exact Nat.zero_le _ | decide) (by first | exact Nat.zero_le _ | decide) dX4_joined_47
  · skip
    refine V.ei (y := nI 7) (congrArg nI sw1) ?_
    refine r_tabIn C (off := 47) (t := 48) dX4_joined_1 (by decide) (by decide) (by decide) (by decide) ?_
    refine r_lload_n C 1 dX4_joined_48 rfl rfl ?_
    refine r_lload_n C 2 dX4_joined_49 rfl rfl ?_
    refine r_lmul C dX4_joined_50 ?_
    refine r_ldc2 C (v := 1000) kl_X4_84 dX4_joined_51 ?_
    refine V.el (y := lN 1000) (by decide) ?_
    refine r_callS C hgX ml_X4_86 st_X2_rounded (c_X2_rounded l hfl G M (a * b) 1000 (by omega)) rfl (Nat.le_of_ble_eq_true rfl) ⟨Nat.le_of_ble_eq_true rfl, Nat.le_of_ble_eq_true rfl⟩ ⟨Nat.le_of_ble_eq_true rfl, Nat.le_of_ble_eq_true rfl⟩ dX4_joined_54 rfl ?_
    rintro _ _ ⟨rfl, rfl⟩
    refine V.eSt (st' := [.long (rdF (a * b) (lN 1000))]) rfl ?_
    refine V.el (y := rndL (a * b) (lN 1000)) (rdF_rnd (by decide) (by decide)) ?_
    exact r_lret C hr (⟨by refine congrArg (fun z => some (Value.long z)) ?_; unfold joinL; rw [if_neg (show ¬ w = 4 by omega), if_neg (show ¬ w = 5 by omega), if_neg (show ¬ w = 6 by omega), if_pos sw1], rfl⟩) (by first | exact Nat.zero_le _ | decide) (by first | exact Nat.zero_le _ | decide) dX4_joined_57
  · skip
    refine V.ei (y := nI 8) (congrArg nI sw1) ?_
    refine r_tabIn C (off := 57) (t := 58) dX4_joined_1 (by decide) (by decide) (by decide) (by decide) ?_
    refine r_lload_n C 1 dX4_joined_58 rfl rfl ?_
    refine r_lload_n C 2 dX4_joined_59 rfl rfl ?_
    refine r_minL C km_X4_92 (Nat.le_of_ble_eq_true rfl) (Nat.le_of_ble_eq_true rfl) (by first | exact Nat.zero_le _ | decide) (by first | exact Nat.zero_le _ | decide) dX4_joined_60 ?_
    exact r_lret C hr (⟨by refine congrArg (fun z => some (Value.long z)) ?_; unfold joinL; rw [if_neg (show ¬ w = 4 by omega), if_neg (show ¬ w = 5 by omega), if_neg (show ¬ w = 6 by omega), if_neg (show ¬ w = 7 by omega), if_pos sw1]; exact lmin_c _ _, rfl⟩) (by first | exact Nat.zero_le _ | decide) (by first | exact Nat.zero_le _ | decide) dX4_joined_63
  · skip
    refine V.ei (y := nI 9) (congrArg nI sw1) ?_
    refine r_tabOut C (t := 64) dX4_joined_1 (by decide) (by decide) ?_
    refine r_lload_n C 1 dX4_joined_64 rfl rfl ?_
    refine r_lload_n C 2 dX4_joined_65 rfl rfl ?_
    refine r_maxL C km_X4_95 (Nat.le_of_ble_eq_true rfl) (Nat.le_of_ble_eq_true rfl) (by first | exact Nat.zero_le _ | decide) (by first | exact Nat.zero_le _ | decide) dX4_joined_66 ?_
    exact r_lret C hr (⟨by refine congrArg (fun z => some (Value.long z)) ?_; unfold joinL; rw [if_neg (show ¬ w = 4 by omega), if_neg (show ¬ w = 5 by omega), if_neg (show ¬ w = 6 by omega), if_neg (show ¬ w = 7 by omega), if_neg (show ¬ w = 8 by omega)]; exact lmax_c _ _, rfl⟩) (by first | exact Nat.zero_le _ | decide) (by first | exact Nat.zero_le _ | decide) dX4_joined_69

