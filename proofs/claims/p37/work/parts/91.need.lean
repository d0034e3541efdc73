/-! THE CLASS: is and need -/
theorem z32 : (0 : Int32).toInt = 0 := rfl
theorem inW_t {x a b : Int32} (h1 : ¬ x < a) (h2 : ¬ b < x) : bI (inB x a.toInt64 b.toInt64) = nI 1 := by
  unfold inB
  rw [Int32.lt_iff_toInt_lt] at h1 h2
  exact d_pos ⟨by rw [Int64.le_iff_toInt_le, Int32.toInt_toInt64, Int32.toInt_toInt64]; omega, by rw [Int64.le_iff_toInt_le, Int32.toInt_toInt64, Int32.toInt_toInt64]; omega⟩
theorem inW_f {x a b : Int32} (h : x < a ∨ b < x) : bI (inB x a.toInt64 b.toInt64) = nI 0 := by
  unfold inB
  rw [Int32.lt_iff_toInt_lt, Int32.lt_iff_toInt_lt] at h
  refine d_neg fun z => ?_
  rw [Int64.le_iff_toInt_le, Int64.le_iff_toInt_le, Int32.toInt_toInt64, Int32.toInt_toInt64, Int32.toInt_toInt64] at z
  omega
theorem rg_t {x : Int32} {n : Nat} (hn : n < 2 ^ 31) (h1 : ¬ x < 0) (h2 : x < nI n) : bI (rng x n) = nI 1 := by
  unfold rng
  rw [Int32.lt_iff_toInt_lt, z32] at h1
  rw [Int32.lt_iff_toInt_lt, nI_toInt hn] at h2
  exact d_pos ⟨by omega, h2⟩
theorem rg_f1 {x : Int32} {n : Nat} (h1 : x < 0) : bI (rng x n) = nI 0 := by
  unfold rng
  rw [Int32.lt_iff_toInt_lt, z32] at h1
  exact d_neg (by omega)
theorem rg_f2 {x : Int32} {n : Nat} (hn : n < 2 ^ 31) (h2 : ¬ x < nI n) : bI (rng x n) = nI 0 := by
  unfold rng
  rw [Int32.lt_iff_toInt_lt, nI_toInt hn] at h2
  exact d_neg (by omega)
set_option maxHeartbeats 1000000 in
set_option maxRecDepth 100000 in
theorem c_X11_isPerson (l : Launch) (hfl : l.flags = flags0) (G : gW) (M : Mem) (x : Int32) : CT l yX11_isPerson cX11_isPerson 1 (some .boolean) 0 0 0 0 G M [.int x] (fun v M' => v = some (.int (bI (rng x 6))) ∧ M = M') := by
  refine CT.of hfl rfl (Nat.le_of_ble_eq_true rfl) ?_
  intro pp ee ss mm ar bw mt cd C hgX hr hini
  refine V.eLo (lo' := [(0, .int x)]) rfl ?_
  refine r_iload_n C 0 dX11_isPerson_0 rfl rfl ?_
  refine r_if_lt C (t := 14) dX11_isPerson_1 (by decide) (fun c1 => ?_) (fun c1 => ?_)
  · skip
    refine r_iconst C (v := nI 0) dX11_isPerson_14 (by decide) ?_
    exact r_zret C hr (by decide) (⟨congrArg (fun z => some (Value.int z)) (rg_f1 (by first | exact c1 | simpa using c1)).symm, rfl⟩) (by first | exact Nat.zero_le _ | decide) (by first | exact Nat.zero_le _ | decide) dX11_isPerson_15
  · skip
    refine r_iload_n C 0 dX11_isPerson_4 rfl rfl ?_
    refine r_bipush C (v := nI 6) dX11_isPerson_5 (by decide) ?_
    refine r_icmp_ge C (t := 14) dX11_isPerson_7 (by decide) (fun c7 => ?_) (fun c7 => ?_)
    · skip
      refine r_iconst C (v := nI 0) dX11_isPerson_14 (by decide) ?_
      exact r_zret C hr (by decide) (⟨congrArg (fun z => some (Value.int z)) (rg_f2 (by decide) (by first | exact c7 | simpa using c7)).symm, rfl⟩) (by first | exact Nat.zero_le _ | decide) (by first | exact Nat.zero_le _ | decide) dX11_isPerson_15
    · skip
      refine r_iconst C (v := nI 1) dX11_isPerson_10 (by decide) ?_
      refine r_goto C (t := 15) dX11_isPerson_11 (by decide) ?_
      exact r_zret C hr (by decide) (⟨congrArg (fun z => some (Value.int z)) (rg_t (by decide) (by first | exact c1 | simpa using c1) (by first | exact c7 | simpa using c7)).symm, rfl⟩) (by first | exact Nat.zero_le _ | decide) (by first | exact Nat.zero_le _ | decide) dX11_isPerson_15
set_option maxHeartbeats 1000000 in
set_option maxRecDepth 100000 in
theorem c_X11_isMonth (l : Launch) (hfl : l.flags = flags0) (G : gW) (M : Mem) (x : Int32) : CT l yX11_isMonth cX11_isMonth 1 (some .boolean) 0 0 0 0 G M [.int x] (fun v M' => v = some (.int (bI (rng x 24))) ∧ M = M') := by
  refine CT.of hfl rfl (Nat.le_of_ble_eq_true rfl) ?_
  intro pp ee ss mm ar bw mt cd C hgX hr hini
  refine V.eLo (lo' := [(0, .int x)]) rfl ?_
  refine r_iload_n C 0 dX11_isMonth_0 rfl rfl ?_
  refine r_if_lt C (t := 14) dX11_isMonth_1 (by decide) (fun c1 => ?_) (fun c1 => ?_)
  · skip
    refine r_iconst C (v := nI 0) dX11_isMonth_14 (by decide) ?_
    exact r_zret C hr (by decide) (⟨congrArg (fun z => some (Value.int z)) (rg_f1 (by first | exact c1 | simpa using c1)).symm, rfl⟩) (by first | exact Nat.zero_le _ | decide) (by first | exact Nat.zero_le _ | decide) dX11_isMonth_15
  · skip
    refine r_iload_n C 0 dX11_isMonth_4 rfl rfl ?_
    refine r_bipush C (v := nI 24) dX11_isMonth_5 (by decide) ?_
    refine r_icmp_ge C (t := 14) dX11_isMonth_7 (by decide) (fun c7 => ?_) (fun c7 => ?_)
    · skip
      refine r_iconst C (v := nI 0) dX11_isMonth_14 (by decide) ?_
      exact r_zret C hr (by decide) (⟨congrArg (fun z => some (Value.int z)) (rg_f2 (by decide) (by first | exact c7 | simpa using c7)).symm, rfl⟩) (by first | exact Nat.zero_le _ | decide) (by first | exact Nat.zero_le _ | decide) dX11_isMonth_15
    · skip
      refine r_iconst C (v := nI 1) dX11_isMonth_10 (by decide) ?_
      refine r_goto C (t := 15) dX11_isMonth_11 (by decide) ?_
      exact r_zret C hr (by decide) (⟨congrArg (fun z => some (Value.int z)) (rg_t (by decide) (by first | exact c1 | simpa using c1) (by first | exact c7 | simpa using c7)).symm, rfl⟩) (by first | exact Nat.zero_le _ | decide) (by first | exact Nat.zero_le _ | decide) dX11_isMonth_15
set_option maxHeartbeats 1000000 in
set_option maxRecDepth 100000 in
theorem c_X11_isDay (l : Launch) (hfl : l.flags = flags0) (G : gW) (M : Mem) (x : Int32) : CT l yX11_isDay cX11_isDay 1 (some .boolean) 0 0 0 0 G M [.int x] (fun v M' => v = some (.int (bI (rng x 720))) ∧ M = M') := by
  refine CT.of hfl rfl (Nat.le_of_ble_eq_true rfl) ?_
  intro pp ee ss mm ar bw mt cd C hgX hr hini
  refine V.eLo (lo' := [(0, .int x)]) rfl ?_
  refine r_iload_n C 0 dX11_isDay_0 rfl rfl ?_
  refine r_if_lt C (t := 15) dX11_isDay_1 (by decide) (fun c1 => ?_) (fun c1 => ?_)
  · skip
    refine r_iconst C (v := nI 0) dX11_isDay_15 (by decide) ?_
    exact r_zret C hr (by decide) (⟨congrArg (fun z => some (Value.int z)) (rg_f1 (by first | exact c1 | simpa using c1)).symm, rfl⟩) (by first | exact Nat.zero_le _ | decide) (by first | exact Nat.zero_le _ | decide) dX11_isDay_16
  · skip
    refine r_iload_n C 0 dX11_isDay_4 rfl rfl ?_
    refine r_sipush C (v := nI 720) dX11_isDay_5 (by decide) ?_
    refine r_icmp_ge C (t := 15) dX11_isDay_8 (by decide) (fun c8 => ?_) (fun c8 => ?_)
    · skip
      refine r_iconst C (v := nI 0) dX11_isDay_15 (by decide) ?_
      exact r_zret C hr (by decide) (⟨congrArg (fun z => some (Value.int z)) (rg_f2 (by decide) (by first | exact c8 | simpa using c8)).symm, rfl⟩) (by first | exact Nat.zero_le _ | decide) (by first | exact Nat.zero_le _ | decide) dX11_isDay_16
    · skip
      refine r_iconst C (v := nI 1) dX11_isDay_11 (by decide) ?_
      refine r_goto C (t := 16) dX11_isDay_12 (by decide) ?_
      exact r_zret C hr (by decide) (⟨congrArg (fun z => some (Value.int z)) (rg_t (by decide) (by first | exact c1 | simpa using c1) (by first | exact c8 | simpa using c8)).symm, rfl⟩) (by first | exact Nat.zero_le _ | decide) (by first | exact Nat.zero_le _ | decide) dX11_isDay_16
set_option maxHeartbeats 1000000 in
set_option maxRecDepth 100000 in
theorem c_X11_isPlace (l : Launch) (hfl : l.flags = flags0) (G : gW) (M : Mem) (x : Int32) : CT l yX11_isPlace cX11_isPlace 1 (some .boolean) 0 0 0 0 G M [.int x] (fun v M' => v = some (.int (bI (rng x 3))) ∧ M = M') := by
  refine CT.of hfl rfl (Nat.le_of_ble_eq_true rfl) ?_
  intro pp ee ss mm ar bw mt cd C hgX hr hini
  refine V.eLo (lo' := [(0, .int x)]) rfl ?_
  refine r_iload_n C 0 dX11_isPlace_0 rfl rfl ?_
  refine r_if_lt C (t := 13) dX11_isPlace_1 (by decide) (fun c1 => ?_) (fun c1 => ?_)
  · skip
    refine r_iconst C (v := nI 0) dX11_isPlace_13 (by decide) ?_
    exact r_zret C hr (by decide) (⟨congrArg (fun z => some (Value.int z)) (rg_f1 (by first | exact c1 | simpa using c1)).symm, rfl⟩) (by first | exact Nat.zero_le _ | decide) (by first | exact Nat.zero_le _ | decide) dX11_isPlace_14
  · skip
    refine r_iload_n C 0 dX11_isPlace_4 rfl rfl ?_
    refine r_iconst C (v := nI 3) dX11_isPlace_5 (by decide) ?_
    refine r_icmp_ge C (t := 13) dX11_isPlace_6 (by decide) (fun c6 => ?_) (fun c6 => ?_)
    · skip
      refine r_iconst C (v := nI 0) dX11_isPlace_13 (by decide) ?_
      exact r_zret C hr (by decide) (⟨congrArg (fun z => some (Value.int z)) (rg_f2 (by decide) (by first | exact c6 | simpa using c6)).symm, rfl⟩) (by first | exact Nat.zero_le _ | decide) (by first | exact Nat.zero_le _ | decide) dX11_isPlace_14
    · skip
      refine r_iconst C (v := nI 1) dX11_isPlace_9 (by decide) ?_
      refine r_goto C (t := 14) dX11_isPlace_10 (by decide) ?_
      exact r_zret C hr (by decide) (⟨congrArg (fun z => some (Value.int z)) (rg_t (by decide) (by first | exact c1 | simpa using c1) (by first | exact c6 | simpa using c6)).symm, rfl⟩) (by first | exact Nat.zero_le _ | decide) (by first | exact Nat.zero_le _ | decide) dX11_isPlace_14
set_option maxHeartbeats 1000000 in
set_option maxRecDepth 100000 in
theorem c_X11_isState (l : Launch) (hfl : l.flags = flags0) (G : gW) (M : Mem) (x : Int32) : CT l yX11_isState cX11_isState 1 (some .boolean) 0 0 0 0 G M [.int x] (fun v M' => v = some (.int (bI (rng x 2))) ∧ M = M') := by
  refine CT.of hfl rfl (Nat.le_of_ble_eq_true rfl) ?_
  intro pp ee ss mm ar bw mt cd C hgX hr hini
  refine V.eLo (lo' := [(0, .int x)]) rfl ?_
  refine r_iload_n C 0 dX11_isState_0 rfl rfl ?_
  refine r_if_lt C (t := 13) dX11_isState_1 (by decide) (fun c1 => ?_) (fun c1 => ?_)
  · skip
    refine r_iconst C (v := nI 0) dX11_isState_13 (by decide) ?_
    exact r_zret C hr (by decide) (⟨congrArg (fun z => some (Value.int z)) (rg_f1 (by first | exact c1 | simpa using c1)).symm, rfl⟩) (by first | exact Nat.zero_le _ | decide) (by first | exact Nat.zero_le _ | decide) dX11_isState_14
  · skip
    refine r_iload_n C 0 dX11_isState_4 rfl rfl ?_
    refine r_iconst C (v := nI 2) dX11_isState_5 (by decide) ?_
    refine r_icmp_ge C (t := 13) dX11_isState_6 (by decide) (fun c6 => ?_) (fun c6 => ?_)
    · skip
      refine r_iconst C (v := nI 0) dX11_isState_13 (by decide) ?_
      exact r_zret C hr (by decide) (⟨congrArg (fun z => some (Value.int z)) (rg_f2 (by decide) (by first | exact c6 | simpa using c6)).symm, rfl⟩) (by first | exact Nat.zero_le _ | decide) (by first | exact Nat.zero_le _ | decide) dX11_isState_14
    · skip
      refine r_iconst C (v := nI 1) dX11_isState_9 (by decide) ?_
      refine r_goto C (t := 14) dX11_isState_10 (by decide) ?_
      exact r_zret C hr (by decide) (⟨congrArg (fun z => some (Value.int z)) (rg_t (by decide) (by first | exact c1 | simpa using c1) (by first | exact c6 | simpa using c6)).symm, rfl⟩) (by first | exact Nat.zero_le _ | decide) (by first | exact Nat.zero_le _ | decide) dX11_isState_14
set_option maxHeartbeats 1000000 in
set_option maxRecDepth 100000 in
theorem c_X11_isWithin (l : Launch) (hfl : l.flags = flags0) (G : gW) (M : Mem) (x a b : Int32) : CT l yX11_isWithin cX11_isWithin 3 (some .boolean) 0 0 0 0 G M [.int x, .int a, .int b] (fun v M' => v = some (.int (bI (inB x a.toInt64 b.toInt64))) ∧ M = M') := by
  refine CT.of hfl rfl (Nat.le_of_ble_eq_true rfl) ?_
  intro pp ee ss mm ar bw mt cd C hgX hr hini
  refine V.eLo (lo' := [(0, .int x), (1, .int a), (2, .int b)]) rfl ?_
  refine r_iload_n C 0 dX11_isWithin_0 rfl rfl ?_
  refine r_iload_n C 1 dX11_isWithin_1 rfl rfl ?_
  refine r_icmp_lt C (t := 14) dX11_isWithin_2 (by decide) (fun c2 => ?_) (fun c2 => ?_)
  · skip
    refine r_iconst C (v := nI 0) dX11_isWithin_14 (by decide) ?_
    exact r_zret C hr (by decide) (⟨congrArg (fun z => some (Value.int z)) (inW_f (.inl (by first | exact c2 | simpa using c2))).symm, rfl⟩) (by first | exact Nat.zero_le _ | decide) (by first | exact Nat.zero_le _ | decide) dX11_isWithin_15
  · skip
    refine r_iload_n C 0 dX11_isWithin_5 rfl rfl ?_
    refine r_iload_n C 2 dX11_isWithin_6 rfl rfl ?_
    refine r_icmp_gt C (t := 14) dX11_isWithin_7 (by decide) (fun c7 => ?_) (fun c7 => ?_)
    · skip
      refine r_iconst C (v := nI 0) dX11_isWithin_14 (by decide) ?_
      exact r_zret C hr (by decide) (⟨congrArg (fun z => some (Value.int z)) (inW_f (.inr (by first | exact c7 | simpa using c7))).symm, rfl⟩) (by first | exact Nat.zero_le _ | decide) (by first | exact Nat.zero_le _ | decide) dX11_isWithin_15
    · skip
      refine r_iconst C (v := nI 1) dX11_isWithin_10 (by decide) ?_
      refine r_goto C (t := 15) dX11_isWithin_11 (by decide) ?_
      exact r_zret C hr (by decide) (⟨congrArg (fun z => some (Value.int z)) (inW_t (by first | exact c2 | simpa using c2) (by first | exact c7 | simpa using c7)).symm, rfl⟩) (by first | exact Nat.zero_le _ | decide) (by first | exact Nat.zero_le _ | decide) dX11_isWithin_15
set_option maxHeartbeats 1000000 in
set_option maxRecDepth 100000 in
theorem c_X11_needThere (l : Launch) (hfl : l.flags = flags0) (G : gW) (M : Mem) (b : Bool) : CX l yX11_needThere cX11_needThere 1 none 6 1 6 82 G M [.int (bI b)] (fun v M' => v = none ∧ M = M' ∧ b = true) (fun E M' => b = false ∧ E = "java/lang/IndexOutOfBoundsException" ∧ M' = mCl M) := by
  refine CX.of hfl rfl (Nat.le_of_ble_eq_true rfl) ?_
  intro pp ee ss mm ar bw mt cd C hgX hr hno
  refine V.eLo (lo' := [(0, .int (bI b))]) rfl ?_
  refine r_iload_n C 0 dX11_needThere_0 rfl rfl ?_
  refine r_if_neB C (t := 15) dX11_needThere_1 (by decide) (fun c1 => ?_) (fun c1 => ?_)
  · skip
    refine V.xret ?_
    exact r_vret C hr (⟨rfl, rfl, c1⟩) (by first | exact Nat.zero_le _ | decide) (by first | exact Nat.zero_le _ | decide) dX11_needThere_15
  · skip
    exact r_throwW C hgX hno th_0 hgX.2.2.2.2.2.1.1 hgX.2.2.2.2.1.1 dX11_needThere_4 dX11_needThere_7 dX11_needThere_8 dX11_needThere_11 dX11_needThere_14 ⟨(Nat.le_of_ble_eq_true rfl), (Nat.le_of_ble_eq_true rfl), (Nat.le_of_ble_eq_true rfl), (Nat.le_of_ble_eq_true rfl)⟩ (Nat.le_of_ble_eq_true rfl) (Nat.le_of_ble_eq_true rfl) (⟨c1, rfl, rfl⟩)
set_option maxHeartbeats 1000000 in
set_option maxRecDepth 100000 in
theorem c_X11_needFitting (l : Launch) (hfl : l.flags = flags0) (G : gW) (M : Mem) (b : Bool) : CX l yX11_needFitting cX11_needFitting 1 none 6 1 6 82 G M [.int (bI b)] (fun v M' => v = none ∧ M = M' ∧ b = true) (fun E M' => b = false ∧ E = "java/lang/IllegalArgumentException" ∧ M' = mCl M) := by
  refine CX.of hfl rfl (Nat.le_of_ble_eq_true rfl) ?_
  intro pp ee ss mm ar bw mt cd C hgX hr hno
  refine V.eLo (lo' := [(0, .int (bI b))]) rfl ?_
  refine r_iload_n C 0 dX11_needFitting_0 rfl rfl ?_
  refine r_if_neB C (t := 15) dX11_needFitting_1 (by decide) (fun c1 => ?_) (fun c1 => ?_)
  · skip
    refine V.xret ?_
    exact r_vret C hr (⟨rfl, rfl, c1⟩) (by first | exact Nat.zero_le _ | decide) (by first | exact Nat.zero_le _ | decide) dX11_needFitting_15
  · skip
    exact r_throwW C hgX hno th_1 hgX.2.2.2.2.2.1.2.1 hgX.2.2.2.2.1.2.1 dX11_needFitting_4 dX11_needFitting_7 dX11_needFitting_8 dX11_needFitting_11 dX11_needFitting_14 ⟨(Nat.le_of_ble_eq_true rfl), (Nat.le_of_ble_eq_true rfl), (Nat.le_of_ble_eq_true rfl), (Nat.le_of_ble_eq_true rfl)⟩ (Nat.le_of_ble_eq_true rfl) (Nat.le_of_ble_eq_true rfl) (⟨c1, rfl, rfl⟩)
set_option maxHeartbeats 1000000 in
set_option maxRecDepth 100000 in
theorem c_X11_needAllowed (l : Launch) (hfl : l.flags = flags0) (G : gW) (M : Mem) (b : Bool) : CX l yX11_needAllowed cX11_needAllowed 1 none 6 1 6 82 G M [.int (bI b)] (fun v M' => v = none ∧ M = M' ∧ b = true) (fun E M' => b = false ∧ E = "java/lang/IllegalStateException" ∧ M' = mCl M) := by
  refine CX.of hfl rfl (Nat.le_of_ble_eq_true rfl) ?_
  intro pp ee ss mm ar bw mt cd C hgX hr hno
  refine V.eLo (lo' := [(0, .int (bI b))]) rfl ?_
  refine r_iload_n C 0 dX11_needAllowed_0 rfl rfl ?_
  refine r_if_neB C (t := 15) dX11_needAllowed_1 (by decide) (fun c1 => ?_) (fun c1 => ?_)
  · skip
    refine V.xret ?_
    exact r_vret C hr (⟨rfl, rfl, c1⟩) (by first | exact Nat.zero_le _ | decide) (by first | exact Nat.zero_le _ | decide) dX11_needAllowed_15
  · skip
    exact r_throwW C hgX hno th_2 hgX.2.2.2.2.2.1.2.2.1 hgX.2.2.2.2.1.2.2 dX11_needAllowed_4 dX11_needAllowed_7 dX11_needAllowed_8 dX11_needAllowed_11 dX11_needAllowed_14 ⟨(Nat.le_of_ble_eq_true rfl), (Nat.le_of_ble_eq_true rfl), (Nat.le_of_ble_eq_true rfl), (Nat.le_of_ble_eq_true rfl)⟩ (Nat.le_of_ble_eq_true rfl) (Nat.le_of_ble_eq_true rfl) (⟨c1, rfl, rfl⟩)

