/-! THE LAW: act -/
/-- a call's code, its answer or the law's number for its throw, the new state -/
def WR (τ : Mu) (Cd : Nat) (U1 : Mu) (R : Int32) (ts : List Int32) (told : Int32) (U : Mu) : Prop := told = (if Cd = 0 then R else ts.getD (Cd - 1) R) ∧ U = (if Cd = 0 then U1 else τ)
def WRl (τ : Mu) (Cd : Nat) (U1 : Mu) (R : Int64) (ts : List Int64) (told : Int32) (U : Mu) : Prop := told = (if Cd = 0 then R else ts.getD (Cd - 1) R).toInt32 ∧ U = (if Cd = 0 then U1 else τ)
theorem getD_mapI (ts : List Int32) (k : Nat) (R : Int32) : (ts.map Value.int).getD k (.int R) = .int (ts.getD k R) := by
  rw [List.getD_eq_getElem?_getD, List.getD_eq_getElem?_getD, List.getElem?_map]
  cases ts[k]? <;> rfl
theorem getD_mapL (ts : List Int64) (k : Nat) (R : Int64) : (ts.map Value.long).getD k (.long R) = .long (ts.getD k R) := by
  rw [List.getD_eq_getElem?_getD, List.getD_eq_getElem?_getD, List.getElem?_map]
  cases ts[k]? <;> rfl
theorem WPo.i {τ U : Mu} {G : gW} {q Cd : Nat} {F : Nat → Prop} {M M' : Mem} {R : Int32} {ts : List Int32} {v : Option Value} (h : WPo τ G q F M Cd U (.int R) (ts.map Value.int) v M') : ∃ told V, v = some (.int told) ∧ WR τ Cd U R ts told V ∧ OW V G q F M' ∧ KF F M M' := by
  obtain ⟨h1, h2, h3⟩ := h
  refine ⟨_, _, ?_, ⟨rfl, rfl⟩, h2, h3⟩
  rw [h1, getD_mapI]
  by_cases z : Cd = 0
  · rw [if_pos z, if_pos z]
  · rw [if_neg z, if_neg z]
theorem WPo.l {τ U : Mu} {G : gW} {q Cd : Nat} {F : Nat → Prop} {M M' : Mem} {R : Int64} {ts : List Int64} {v : Option Value} (h : WPo τ G q F M Cd U (.long R) (ts.map Value.long) v M') : ∃ x V, v = some (.long x) ∧ WRl τ Cd U R ts x.toInt32 V ∧ OW V G q F M' ∧ KF F M M' := by
  obtain ⟨h1, h2, h3⟩ := h
  refine ⟨_, _, ?_, ⟨rfl, rfl⟩, h2, h3⟩
  rw [h1, getD_mapL]
  by_cases z : Cd = 0
  · rw [if_pos z, if_pos z]
  · rw [if_neg z, if_neg z]
theorem WR.wf {τ U1 U : Mu} {Cd : Nat} {R told : Int32} {ts : List Int32} (h : WR τ Cd U1 R ts told U) (hw : WF τ) (hu : Cd = 0 → WF U1) : WF U := by
  rw [h.2]
  by_cases z : Cd = 0
  · rw [if_pos z]; exact hu z
  · rw [if_neg z]; exact hw
/-- the third bit of a number below 3 -/
theorem bit2_0 {y : Int32} (h : lwN y 8 < 3) : lwN (y >>> (nI 2 &&& 31)) 2 = 0 := by
  unfold lwN lw0 at h ⊢
  have e : (y >>> (nI 2 &&& 31)).toBitVec = y.toBitVec.sshiftRight 2 := rfl
  rw [e]
  have h2 : y.toBitVec.toNat % 8 < 3 := by omega
  have h3 : (y.toBitVec.sshiftRight 2).toNat % 2 = y.toBitVec.toNat / 4 % 2 := by
    have hb : (y.toBitVec.sshiftRight 2).toNat.testBit 0 = y.toBitVec.toNat.testBit 2 := by
      have := BitVec.getLsbD_sshiftRight (x := y.toBitVec) (s := 2) (i := 0)
      simpa [BitVec.getLsbD] using this
    rw [Nat.testBit_zero] at hb
    have hc : y.toBitVec.toNat.testBit 2 = decide (y.toBitVec.toNat / 4 % 2 = 1) := by
      rw [Nat.testBit_eq_decide_div_mod_eq]
    rw [hc] at hb
    have := decide_eq_decide.mp hb
    omega
  omega
def AR_none (τ : Mu) (n0 n1 n2 : Nat) (told : Int32) (U : Mu) (m0 m1 m2 : Nat) : Prop := told = -9 ∧ U = τ ∧ m0 = n0 ∧ m1 = n1 ∧ m2 = n2
def AR_contract (τ : Mu) (n0 n1 n2 : Nat) (told : Int32) (U : Mu) (m0 m1 m2 : Nat) : Prop := ∃ (p q_ f t : Nat) (b : Bool) (w v : Nat), p < 8 ∧ q_ < 4 ∧ f < 400 ∧ t < 722 ∧ w < 500 ∧ v < 5000 ∧ (p < 3 → b = true) ∧ n0 ≠ 6 ∧ WR τ (cd3 (rng (nI p) 6 && rng (nI q_) 3 && rng (nI f) 720 && rng (nI t) 720) (decide ((nI f) ≤ (nI t)) && inB (nI (50 + w)) (lN 60) (lN 600) && inB (nI v) (lN 0) (lN 1000000)) (decide (un τ 9 9 ≠ 10))) (sI (spS (sI (sI (sI (sI (sI (sI (sI τ 0 (un τ 9 9) (nI p)) 1 (un τ 9 9) (nI q_)) 2 (un τ 9 9) (nI f)) 3 (un τ 9 9) (nI t)) 4 (un τ 9 9) (bI b)) 5 (un τ 9 9) (nI (50 + w))) 6 (720 * un τ 9 9 + (nI f).toNatClampNeg) (nI v)) (un τ 9 9) 720) 9 9 (nI (un τ 9 9 + 1))) (nI (un τ 9 9)) [(-2), (-3), (-4)] told U ∧ m0 = n0 + (if told < 0 then 0 else 1) ∧ m1 = n1 ∧ m2 = n2
def AR_shift (τ : Mu) (n0 n1 n2 : Nat) (told : Int32) (U : Mu) (m0 m1 m2 : Nat) : Prop := ∃ (c d mi le : Nat), c < n0 + 1 ∧ d < 500 ∧ mi < 1450 ∧ le < 1450 ∧ WR τ (cd3 (isOfB τ (nI c) (nI d)) (inB (nI mi) (lN 0) (lN 1439) && inB (nI le) (lN 1) (lN 1440)) (shB τ (nI c) (nI d) (nI mi) (nI le))) ((shU τ (nI c).toNatClampNeg (nI d).toNatClampNeg (nI mi).toNatClampNeg (nI le).toNatClampNeg)) (nI (un τ 13 13 + 1)) [(-2), (-3), (-4)] told U ∧ m0 = n0 ∧ m1 = n1 ∧ m2 = n2
def AR_leave (τ : Mu) (n0 n1 n2 : Nat) (told : Int32) (U : Mu) (m0 m1 m2 : Nat) : Prop := ∃ (c d : Nat), c < n0 + 1 ∧ d < 700 ∧ WR τ (cd2 (isOfB τ (nI c) (nI d)) (decide (un τ 17 17 ≠ 30))) ((sI (sI (sI τ 14 (un τ 17 17) (nI c)) 15 (un τ 17 17) (nI d)) 17 17 (nI (un τ 17 17 + 1)))) (bI (decide (ltN (sI (sI (sI τ 14 (un τ 17 17) (nI c)) 15 (un τ 17 17) (nI d)) 17 17 (nI (un τ 17 17 + 1))) (un τ 17 17) = 1))) [(-2), (-4)] told U ∧ m0 = n0 ∧ m1 = n1 ∧ m2 = n2
def AR_word (τ : Mu) (n0 n1 n2 : Nat) (told : Int32) (U : Mu) (m0 m1 m2 : Nat) : Prop := ∃ (a b : Nat), a < 11 ∧ b < 7 ∧ WR τ (cd2 (inB (nI a) (lN 0) (lN 9) && (decide ((nI a) ≠ nI 2) || inB (nI b) (lN 0) (lN 5)) && (decide ((nI a) ≠ nI 3) || inB (nI b) (-1000000) (lN 1000000))) (wdB τ (nI a))) (sI (sI (sI τ 22 (60 + un τ 24 6) (nI a)) 23 (60 + un τ 24 6) (nI b)) 24 6 (nI (un τ 24 6 + 1))) (nI (un τ 24 6 + 1)) [(-3), (-4)] told U ∧ m0 = n0 ∧ m1 = n1 ∧ m2 = n2
def AR_element (τ : Mu) (n0 n1 n2 : Nat) (told : Int32) (U : Mu) (m0 m1 m2 : Nat) : Prop := ∃ (a b : Nat), a < n1 + 2 ∧ b < 65 ∧ WR τ (cd3 (inB (nI a) (lN 0) (lN (un τ 26 26)) && decide ((nI a) < nI 6)) (inB (nI b) (lN 0) (lN 63)) (elB τ (nI a))) (elU τ (nI a).toNatClampNeg (nI b).toNatClampNeg) (nI (un τ 26 26 + (if (nI a).toNatClampNeg = un τ 26 26 then 1 else 0))) [(-2), (-3), (-4)] told U ∧ m0 = n0 ∧ m1 = n1 + (if told = nI (n1 + 1) then 1 else 0) ∧ m2 = n2
def AR_bracket (τ : Mu) (n0 n1 n2 : Nat) (told : Int32) (U : Mu) (m0 m1 m2 : Nat) : Prop := ∃ (a b c d e : Nat), a < 4 ∧ b < 3 ∧ c < 25 ∧ d < 900000 ∧ e < 901 ∧ WR τ (cd3 (rng (nI a) 3 && rng (nI c) 24) (inB (nI b) (lN 0) (lN 1) && inB (nI d) (lN 1) (lN 1000000000) && inB (nI e) (lN 0) (lN 900)) (brB τ (brI (nI a) (nI b) (nI c) (nI d) (nI e)) (nI d))) (sI (sI (sI τ 34 (4 * (brI (nI a) (nI b) (nI c) (nI d) (nI e)) + un τ 33 (brI (nI a) (nI b) (nI c) (nI d) (nI e))) (nI d)) 35 (4 * (brI (nI a) (nI b) (nI c) (nI d) (nI e)) + un τ 33 (brI (nI a) (nI b) (nI c) (nI d) (nI e))) (nI e)) 33 (brI (nI a) (nI b) (nI c) (nI d) (nI e)) (nI (un τ 33 (brI (nI a) (nI b) (nI c) (nI d) (nI e)) + 1))) (nI (un τ 33 (brI (nI a) (nI b) (nI c) (nI d) (nI e)) + 1)) [(-2), (-3), (-4)] told U ∧ m0 = n0 ∧ m1 = n1 ∧ m2 = n2
def AR_garnish (τ : Mu) (n0 n1 n2 : Nat) (told : Int32) (U : Mu) (m0 m1 m2 : Nat) : Prop := ∃ (p mm r t w v : Nat), p < 3 ∧ mm < 25 ∧ r < 11 ∧ t < 90000 ∧ w < 1002 ∧ v < 900 ∧ n2 ≠ 5 ∧ WR τ (cd3 (rng (nI p) 6 && rng (nI mm) 24) (inB (nI r) (lN 0) (lN 9) && inB (nI t) (lN 1) (lN 100000000) && inB (nI w) (lN 1) (lN 1000) && inB (nI v) (lN 0) (lN 100000000)) (decide (un τ 44 44 ≠ 6))) (sI (sI (sI (sI (sI (sI (sI τ 38 (un τ 44 44) (nI p)) 39 (un τ 44 44) (nI mm)) 40 (un τ 44 44) (nI r)) 41 (un τ 44 44) (nI t)) 42 (un τ 44 44) (nI w)) 43 (un τ 44 44) (nI v)) 44 44 (nI (un τ 44 44 + 1))) (nI (un τ 44 44)) [(-2), (-3), (-4)] told U ∧ m0 = n0 ∧ m1 = n1 ∧ m2 = n2 + (if told < 0 then 0 else 1)
def AR_advance (τ : Mu) (n0 n1 n2 : Nat) (told : Int32) (U : Mu) (m0 m1 m2 : Nat) : Prop := ∃ (p v : Nat), p < 7 ∧ v < 9000 ∧ WRl τ (cd3 (rng (nI p) 6) (inB (nI v) (lN 1) (lN 1000000)) (decide (un τ 46 46 ≠ 24))) (sL τ 45 (24 * (nI p).toNatClampNeg + un τ 46 46) (τ.2 45 (24 * (nI p).toNatClampNeg + un τ 46 46) + (nI v).toInt64)) (sumL (fun m => (sL τ 45 (24 * (nI p).toNatClampNeg + un τ 46 46) (τ.2 45 (24 * (nI p).toNatClampNeg + un τ 46 46) + (nI v).toInt64)).2 45 (24 * (nI p).toNatClampNeg + m)) 24) [(-2), (-3), (-4)] told U ∧ m0 = n0 ∧ m1 = n1 ∧ m2 = n2
def AR_back (τ : Mu) (n0 n1 n2 : Nat) (told : Int32) (U : Mu) (m0 m1 m2 : Nat) : Prop := ∃ (k : Nat), k < un τ 51 51 + 1 ∧ WRl τ (cd2 (rng (nI k) (un τ 51 51)) (decide (un τ 50 (nI k).toNatClampNeg ≠ 1))) (sI τ 50 (nI k).toNatClampNeg (nI 1)) (τ.2 49 (nI k).toNatClampNeg) [(-2), (-4)] told U ∧ m0 = n0 ∧ m1 = n1 ∧ m2 = n2
def AR_close (τ : Mu) (n0 n1 n2 : Nat) (told : Int32) (U : Mu) (m0 m1 m2 : Nat) : Prop := un τ 46 46 < 24 ∧ told = nI (un (clS τ 6) 51 51 - un τ 51 51) ∧ U = (clU τ) ∧ m0 = n0 ∧ m1 = n1 ∧ m2 = n2
def AR_bonus (τ : Mu) (n0 n1 n2 : Nat) (told : Int32) (U : Mu) (m0 m1 m2 : Nat) : Prop := ∃ (p mm r t : Nat), p < 3 ∧ mm < 24 ∧ r < 3 ∧ t < 90000 ∧ told = 0 ∧ U = (sI τ 30 (72 * (nI p).toNatClampNeg + 3 * (nI mm).toNatClampNeg + (nI r).toNatClampNeg) (nI t - nI 20000)) ∧ m0 = n0 ∧ m1 = n1 ∧ m2 = n2
def AR_leaveRule (τ : Mu) (n0 n1 n2 : Nat) (told : Int32) (U : Mu) (m0 m1 m2 : Nat) : Prop := ∃ (a b c : Nat), a < 51 ∧ b < 501 ∧ c < 12 ∧ told = 0 ∧ U = (sI (sI (sI τ 18 18 (nI a)) 19 19 (nI b)) 20 20 (nI (1 + c))) ∧ m0 = n0 ∧ m1 = n1 ∧ m2 = n2
def AR_tables (τ : Mu) (n0 n1 n2 : Nat) (told : Int32) (U : Mu) (m0 m1 m2 : Nat) : Prop := ∃ (p mm a b c d : Nat), p < 3 ∧ mm < 25 ∧ a < 501 ∧ b < 900000 ∧ c < 201 ∧ d < 2 ∧ told = 0 ∧ U = (if mm < 24 then (sI (sI (sI (sI τ 31 (24 * (nI p).toNatClampNeg + (nI mm).toNatClampNeg) (nI a)) 32 (24 * (nI p).toNatClampNeg + (nI mm).toNatClampNeg) (nI b)) 37 (24 * (nI p).toNatClampNeg + (nI mm).toNatClampNeg) (nI c)) 36 (24 * (nI p).toNatClampNeg + (nI mm).toNatClampNeg) (nI d)) else τ) ∧ m0 = n0 ∧ m1 = n1 ∧ m2 = n2
def AR_zero (τ : Mu) (n0 n1 n2 : Nat) (told : Int32) (U : Mu) (m0 m1 m2 : Nat) : Prop := told = 0 ∧ U = τ ∧ m0 = n0 ∧ m1 = n1 ∧ m2 = n2
/-- what act does -/
def AR (τ : Mu) (n0 n1 n2 : Nat) (told : Int32) (U : Mu) (m0 m1 m2 : Nat) : Prop := AR_none τ n0 n1 n2 told U m0 m1 m2 ∨ AR_contract τ n0 n1 n2 told U m0 m1 m2 ∨ AR_shift τ n0 n1 n2 told U m0 m1 m2 ∨ AR_leave τ n0 n1 n2 told U m0 m1 m2 ∨ AR_word τ n0 n1 n2 told U m0 m1 m2 ∨ AR_element τ n0 n1 n2 told U m0 m1 m2 ∨ AR_bracket τ n0 n1 n2 told U m0 m1 m2 ∨ AR_garnish τ n0 n1 n2 told U m0 m1 m2 ∨ AR_advance τ n0 n1 n2 told U m0 m1 m2 ∨ AR_back τ n0 n1 n2 told U m0 m1 m2 ∨ AR_close τ n0 n1 n2 told U m0 m1 m2 ∨ AR_bonus τ n0 n1 n2 told U m0 m1 m2 ∨ AR_leaveRule τ n0 n1 n2 told U m0 m1 m2 ∨ AR_tables τ n0 n1 n2 told U m0 m1 m2 ∨ AR_zero τ n0 n1 n2 told U m0 m1 m2
def AN (M : Mem) (na n0 n1 n2 : Nat) : Prop := mI M na 0 = nI n0 ∧ mI M na 1 = nI n1 ∧ mI M na 2 = nI n2
theorem AN.kf {F : Nat → Prop} {M M' : Mem} {na n0 n1 n2 : Nat} (h : AN M na n0 n1 n2) (k : KF F M M') (hna : F na) : AN M' na n0 n1 n2 := by
  have e := (k na hna).2.2.1
  exact ⟨(congrFun e 0).trans h.1, (congrFun e 1).trans h.2.1, (congrFun e 2).trans h.2.2⟩
theorem KF.ox {F : Nat → Prop} {M M' : Mem} {na k a : Nat} {v : Int32} (h : KF F M M') (ha : F a) (hx : a ≠ na) : mK (wI M' na k v) a = mK M a ∧ mN (wI M' na k v) a = mN M a ∧ mI (wI M' na k v) a = mI M a ∧ mL (wI M' na k v) a = mL M a ∧ mR (wI M' na k v) a = mR M a := by
  obtain ⟨a1, a2, a3, a4, a5⟩ := h a ha
  exact ⟨a1, a2, (up2_row _ _ hx).trans a3, a4, a5⟩
theorem AN.w0 {M : Mem} {na n0 n1 n2 m0 : Nat} {v : Int32} (h : AN M na n0 n1 n2) (e : v = nI m0) : AN (wI M na 0 v) na m0 n1 n2 := ⟨(up2_same _ _ _ _).trans e, (up2_k _ _ (by decide)).trans h.2.1, (up2_k _ _ (by decide)).trans h.2.2⟩
theorem AN.w1 {M : Mem} {na n0 n1 n2 m1 : Nat} {v : Int32} (h : AN M na n0 n1 n2) (e : v = nI m1) : AN (wI M na 1 v) na n0 m1 n2 := ⟨(up2_k _ _ (by decide)).trans h.1, (up2_same _ _ _ _).trans e, (up2_k _ _ (by decide)).trans h.2.2⟩
theorem AN.w2 {M : Mem} {na n0 n1 n2 m2 : Nat} {v : Int32} (h : AN M na n0 n1 n2) (e : v = nI m2) : AN (wI M na 2 v) na n0 n1 m2 := ⟨(up2_k _ _ (by decide)).trans h.1, (up2_k _ _ (by decide)).trans h.2.1, (up2_same _ _ _ _).trans e⟩
theorem bcase0 {y : Int32} {a b : Nat} (h : a < 3) (ea : lwN y 8 = a) (eb : lwN (y >>> (nI 2 &&& 31)) 2 = b) : b = 0 := by
  rw [← eb]; exact bit2_0 (by rw [ea]; exact h)
theorem WRl.wf {τ U1 U : Mu} {Cd : Nat} {R : Int64} {told : Int32} {ts : List Int64} (h : WRl τ Cd U1 R ts told U) (hw : WF τ) (hu : Cd = 0 → WF U1) : WF U := by
  rw [h.2]
  by_cases z : Cd = 0
  · rw [if_pos z]; exact hu z
  · rw [if_neg z]; exact hw
theorem bon_in {t : Nat} (h : t < 90000) : inB (nI t - nI 20000) (-10000000) (lN 10000000) = true := by
  unfold inB
  refine decide_eq_true ?_
  rw [Int64.le_iff_toInt_le, Int64.le_iff_toInt_le, Int32.toInt_toInt64, pk_lT (by decide), Int32.toInt_sub, nI_toInt (by omega), nI_toInt (by decide), Int.bmod_eq_of_le (by omega) (by omega), show ((-10000000 : Int64).toInt) = -10000000 from rfl]
  omega
set_option maxHeartbeats 4000000 in
set_option maxRecDepth 100000 in
theorem c_L_act (l : Launch) (hfl : l.flags = flags0) (G : gW) (M : Mem) (τ : Mu) (hw : WF τ) (n9 : Nat) (hk : LK n9 τ) (hn90 : n9 ≤ 590) (had : ∀ p, p < 6 → AD τ p) (q : Nat) (F : Nat → Prop) (hO : OW τ G q F M) (na n0 n1 n2 : Nat) (hna : F na) (hn20 : mK M na = 20) (hn3 : mN M na = 3) (hn : AN M na n0 n1 n2) (hb : n0 < 100 ∧ n1 < 100 ∧ n2 < 100) (y : Int32) (kd : Nat) (hkd : kd < 14) : CT l yL_act cL_act 7 (some .int) 9 15 2947 290 G M [.ref q, .ref na, .int y, .int (nI kd)] (fun v M' => ∃ told U m0 m1 m2, v = some (.int told) ∧ AR τ n0 n1 n2 told U m0 m1 m2 ∧ WF U ∧ OW U G q F M' ∧ (∀ a, F a → a ≠ na → mK M' a = mK M a ∧ mN M' a = mN M a ∧ mI M' a = mI M a ∧ mL M' a = mL M a ∧ mR M' a = mR M a) ∧ mK M' na = 20 ∧ mN M' na = 3 ∧ (mI M' na 0 = nI m0 ∧ mI M' na 1 = nI m1 ∧ mI M' na 2 = nI m2)) := by
  have hn9 : n9 ≤ 600 := by omega
  refine CT.of hfl rfl (Nat.le_of_ble_eq_true rfl) ?_
  intro pp ee ss mm ar bw mt cd C hgX hr hini
  have h51 := hw.np.2
  have h46 := hw.op.2
  refine V.eLo (lo' := [(0, .ref q), (1, .ref na), (2, .int y), (3, .int (nI kd))]) rfl ?_
  refine r_iload_n C 2 dL_act_0 rfl rfl ?_
  refine r_iconst C (v := nI 3) dL_act_1 (by decide) ?_
  refine r_callS C hgX ml_L_79 st_L_low (c_L_low l hfl G M y 3 (by decide) (by decide)) rfl (Nat.le_of_ble_eq_true rfl) ⟨Nat.le_of_ble_eq_true rfl, Nat.le_of_ble_eq_true rfl⟩ ⟨Nat.le_of_ble_eq_true rfl, Nat.le_of_ble_eq_true rfl⟩ dL_act_2 rfl ?_
  rintro _ _ ⟨rfl, rfl⟩
  obtain ⟨lw1, hlw1, elw1⟩ : ∃ z_, z_ < 3 ∧ lwN y 3 = z_ := ⟨_, lwN_lt (by decide), rfl⟩
  rw [elw1]
  refine V.eSt (st' := [.int (nI lw1)]) rfl ?_
  refine r_istore C (lo' := [(4, .int (nI lw1)), (0, .ref q), (1, .ref na), (2, .int y), (3, .int (nI kd))]) dL_act_5 (by decide) rfl ?_
  refine r_iload_n C 3 dL_act_7 rfl rfl ?_
  refine r_iconst C (v := nI 2) dL_act_8 (by decide) ?_
  refine r_ishr C dL_act_9 ?_
  refine r_bipush C (v := nI 25) dL_act_10 (by decide) ?_
  refine r_callS C hgX ml_L_79 st_L_low (c_L_low l hfl G M (y >>> ((nI 2) &&& 31)) 25 (by decide) (by decide)) rfl (Nat.le_of_ble_eq_true rfl) ⟨Nat.le_of_ble_eq_true rfl, Nat.le_of_ble_eq_true rfl⟩ ⟨Nat.le_of_ble_eq_true rfl, Nat.le_of_ble_eq_true rfl⟩ dL_act_12 rfl ?_
  rintro _ _ ⟨rfl, rfl⟩
  obtain ⟨lw2, hlw2, elw2⟩ : ∃ z_, z_ < 25 ∧ lwN (y >>> ((nI 2) &&& 31)) 25 = z_ := ⟨_, lwN_lt (by decide), rfl⟩
  rw [elw2]
  refine V.eSt (st' := [.int (nI lw2)]) rfl ?_
  refine r_istore C (lo' := [(5, .int (nI lw2)), (4, .int (nI lw1)), (0, .ref q), (1, .ref na), (2, .int y), (3, .int (nI kd))]) dL_act_15 (by decide) rfl ?_
  refine r_iload_n C 5 dL_act_17 rfl rfl ?_
  rcases (show kd = 0 ∨ kd = 1 ∨ kd = 2 ∨ kd = 3 ∨ kd = 4 ∨ kd = 5 ∨ kd = 6 ∨ kd = 7 ∨ kd = 8 ∨ kd = 9 ∨ kd = 10 ∨ kd = 11 ∨ kd = 12 ∨ kd = 13 from by omega) with sw18 | sw18 | sw18 | sw18 | sw18 | sw18 | sw18 | sw18 | sw18 | sw18 | sw18 | sw18 | sw18 | sw18
  · skip
    refine V.ei (y := nI 0) (congrArg nI sw18) ?_
    refine r_tabIn C (off := 66) (t := 84) dL_act_18 (by decide) (by decide) (by decide) (by decide) ?_
    refine r_aload_n C 3 dL_act_84 rfl rfl ?_
    refine r_iconst C (v := nI 0) dL_act_85 (by decide) ?_
    refine r_ialoadN C (((KF.rf (F := F) (M := M)) na hna).1.trans hn20) (((KF.rf (F := F) (M := M)) na hna).2.1.trans hn3) (by omega) (by omega) dL_act_86 ?_
    refine V.ei (y := nI n0) ((congrFun ((KF.rf (F := F) (M := M)) na hna).2.2.1 0).trans hn.1) ?_
    refine r_bipush C (v := nI 6) dL_act_87 (by decide) ?_
    refine r_icmp_neN C (t := 97) (by omega) (by omega) dL_act_89 (by decide) (fun c89 => ?_) (fun c89 => ?_)
    · skip
      refine r_aload_n C 2 dL_act_97 rfl rfl ?_
      refine r_iload_n C 4 dL_act_98 rfl rfl ?_
      refine r_bipush C (v := nI 8) dL_act_99 (by decide) ?_
      refine r_callS C hgX ml_L_79 st_L_low (c_L_low l hfl G M y 8 (by decide) (by decide)) rfl (Nat.le_of_ble_eq_true rfl) ⟨Nat.le_of_ble_eq_true rfl, Nat.le_of_ble_eq_true rfl⟩ ⟨Nat.le_of_ble_eq_true rfl, Nat.le_of_ble_eq_true rfl⟩ dL_act_101 rfl ?_
      rintro _ _ ⟨rfl, rfl⟩
      obtain ⟨lw3, hlw3, elw3⟩ : ∃ z_, z_ < 8 ∧ lwN y 8 = z_ := ⟨_, lwN_lt (by decide), rfl⟩
      rw [elw3]
      refine V.eSt (st' := [.int (nI lw3), .ref q]) rfl ?_
      refine r_iload_n C 4 dL_act_104 rfl rfl ?_
      refine r_iconst C (v := nI 3) dL_act_105 (by decide) ?_
      refine r_ishr C dL_act_106 ?_
      refine r_iconst C (v := nI 4) dL_act_107 (by decide) ?_
      refine r_callS C hgX ml_L_79 st_L_low (c_L_low l hfl G M (y >>> ((nI 3) &&& 31)) 4 (by decide) (by decide)) rfl (Nat.le_of_ble_eq_true rfl) ⟨Nat.le_of_ble_eq_true rfl, Nat.le_of_ble_eq_true rfl⟩ ⟨Nat.le_of_ble_eq_true rfl, Nat.le_of_ble_eq_true rfl⟩ dL_act_108 rfl ?_
      rintro _ _ ⟨rfl, rfl⟩
      obtain ⟨lw4, hlw4, elw4⟩ : ∃ z_, z_ < 4 ∧ lwN (y >>> ((nI 3) &&& 31)) 4 = z_ := ⟨_, lwN_lt (by decide), rfl⟩
      rw [elw4]
      refine V.eSt (st' := [.int (nI lw4), .int (nI lw3), .ref q]) rfl ?_
      refine r_iload_n C 4 dL_act_111 rfl rfl ?_
      refine r_iconst C (v := nI 4) dL_act_112 (by decide) ?_
      refine r_ishr C dL_act_113 ?_
      refine r_sipush C (v := nI 400) dL_act_114 (by decide) ?_
      refine r_callS C hgX ml_L_79 st_L_low (c_L_low l hfl G M (y >>> ((nI 4) &&& 31)) 400 (by decide) (by decide)) rfl (Nat.le_of_ble_eq_true rfl) ⟨Nat.le_of_ble_eq_true rfl, Nat.le_of_ble_eq_true rfl⟩ ⟨Nat.le_of_ble_eq_true rfl, Nat.le_of_ble_eq_true rfl⟩ dL_act_117 rfl ?_
      rintro _ _ ⟨rfl, rfl⟩
      obtain ⟨lw5, hlw5, elw5⟩ : ∃ z_, z_ < 400 ∧ lwN (y >>> ((nI 4) &&& 31)) 400 = z_ := ⟨_, lwN_lt (by decide), rfl⟩
      rw [elw5]
      refine V.eSt (st' := [.int (nI lw5), .int (nI lw4), .int (nI lw3), .ref q]) rfl ?_
      refine r_iload_n C 4 dL_act_120 rfl rfl ?_
      refine r_bipush C (v := nI 6) dL_act_121 (by decide) ?_
      refine r_ishr C dL_act_123 ?_
      refine r_sipush C (v := nI 722) dL_act_124 (by decide) ?_
      refine r_callS C hgX ml_L_79 st_L_low (c_L_low l hfl G M (y >>> ((nI 6) &&& 31)) 722 (by decide) (by decide)) rfl (Nat.le_of_ble_eq_true rfl) ⟨Nat.le_of_ble_eq_true rfl, Nat.le_of_ble_eq_true rfl⟩ ⟨Nat.le_of_ble_eq_true rfl, Nat.le_of_ble_eq_true rfl⟩ dL_act_127 rfl ?_
      rintro _ _ ⟨rfl, rfl⟩
      obtain ⟨lw6, hlw6, elw6⟩ : ∃ z_, z_ < 722 ∧ lwN (y >>> ((nI 6) &&& 31)) 722 = z_ := ⟨_, lwN_lt (by decide), rfl⟩
      rw [elw6]
      refine V.eSt (st' := [.int (nI lw6), .int (nI lw5), .int (nI lw4), .int (nI lw3), .ref q]) rfl ?_
      refine r_iload_n C 4 dL_act_130 rfl rfl ?_
      refine r_iconst C (v := nI 2) dL_act_131 (by decide) ?_
      refine r_ishr C dL_act_132 ?_
      refine r_iconst C (v := nI 2) dL_act_133 (by decide) ?_
      refine r_callS C hgX ml_L_79 st_L_low (c_L_low l hfl G M (y >>> ((nI 2) &&& 31)) 2 (by decide) (by decide)) rfl (Nat.le_of_ble_eq_true rfl) ⟨Nat.le_of_ble_eq_true rfl, Nat.le_of_ble_eq_true rfl⟩ ⟨Nat.le_of_ble_eq_true rfl, Nat.le_of_ble_eq_true rfl⟩ dL_act_134 rfl ?_
      rintro _ _ ⟨rfl, rfl⟩
      obtain ⟨lw7, hlw7, elw7⟩ : ∃ z_, z_ < 2 ∧ lwN (y >>> ((nI 2) &&& 31)) 2 = z_ := ⟨_, lwN_lt (by decide), rfl⟩
      rw [elw7]
      refine V.eSt (st' := [.int (nI lw7), .int (nI lw6), .int (nI lw5), .int (nI lw4), .int (nI lw3), .ref q]) rfl ?_
      refine r_if_neN C (t := 144) (by omega) dL_act_137 (by decide) (fun c137 => ?_) (fun c137 => ?_)
      · skip
        refine r_iconst C (v := bI false) dL_act_144 (by decide) ?_
        refine r_bipush C (v := nI 50) dL_act_145 (by decide) ?_
        refine r_iload_n C 4 dL_act_147 rfl rfl ?_
        refine r_bipush C (v := nI 8) dL_act_148 (by decide) ?_
        refine r_ishr C dL_act_150 ?_
        refine r_sipush C (v := nI 500) dL_act_151 (by decide) ?_
        refine r_callS C hgX ml_L_79 st_L_low (c_L_low l hfl G M (y >>> ((nI 8) &&& 31)) 500 (by decide) (by decide)) rfl (Nat.le_of_ble_eq_true rfl) ⟨Nat.le_of_ble_eq_true rfl, Nat.le_of_ble_eq_true rfl⟩ ⟨Nat.le_of_ble_eq_true rfl, Nat.le_of_ble_eq_true rfl⟩ dL_act_154 rfl ?_
        rintro _ _ ⟨rfl, rfl⟩
        obtain ⟨lw8, hlw8, elw8⟩ : ∃ z_, z_ < 500 ∧ lwN (y >>> ((nI 8) &&& 31)) 500 = z_ := ⟨_, lwN_lt (by decide), rfl⟩
        rw [elw8]
        refine V.eSt (st' := [.int (nI lw8), .int (nI 50), .int (bI false), .int (nI lw6), .int (nI lw5), .int (nI lw4), .int (nI lw3), .ref q]) rfl ?_
        refine r_iaddN C dL_act_157 ?_
        refine r_iload_n C 4 dL_act_158 rfl rfl ?_
        refine r_iconst C (v := nI 5) dL_act_159 (by decide) ?_
        refine r_ishr C dL_act_160 ?_
        refine r_sipush C (v := nI 5000) dL_act_161 (by decide) ?_
        refine r_callS C hgX ml_L_79 st_L_low (c_L_low l hfl G M (y >>> ((nI 5) &&& 31)) 5000 (by decide) (by decide)) rfl (Nat.le_of_ble_eq_true rfl) ⟨Nat.le_of_ble_eq_true rfl, Nat.le_of_ble_eq_true rfl⟩ ⟨Nat.le_of_ble_eq_true rfl, Nat.le_of_ble_eq_true rfl⟩ dL_act_164 rfl ?_
        rintro _ _ ⟨rfl, rfl⟩
        obtain ⟨lw9, hlw9, elw9⟩ : ∃ z_, z_ < 5000 ∧ lwN (y >>> ((nI 5) &&& 31)) 5000 = z_ := ⟨_, lwN_lt (by decide), rfl⟩
        rw [elw9]
        refine V.eSt (st' := [.int (nI lw9), .int (nI (50 + lw8)), .int (bI false), .int (nI lw6), .int (nI lw5), .int (nI lw4), .int (nI lw3), .ref q]) rfl ?_
        refine r_callH C hgX hl_contracts (c_L_contracts l hfl G M τ hw q F hO had (nI lw3) (nI lw4) (nI lw5) (nI lw6) false (nI (50 + lw8)) (nI lw9) (fun h9_ => hk.n6 (Nat.lt_of_le_of_ne hw.nc.2 h9_))) rfl (Nat.le_of_ble_eq_true rfl) ⟨Nat.le_of_ble_eq_true rfl, Nat.le_of_ble_eq_true rfl⟩ ⟨Nat.le_of_ble_eq_true rfl, Nat.le_of_ble_eq_true rfl⟩ dL_act_167 rfl ?_
        intro v10 Mq10 hp10
        obtain ⟨told, Ux, hv10, hwr, hO10, hk10⟩ := WPo.i (ts := [(-2), (-3), (-4)]) hp10
        subst hv10
        have hwV : WF Ux := hwr.wf hw (fun h_ => (lk_contract hw hk hn9 h_).1)
        refine V.eSt (st' := [.int told]) rfl ?_
        refine r_istore C (lo' := [(6, .int told), (5, .int (nI lw2)), (4, .int (nI lw1)), (0, .ref q), (1, .ref na), (2, .int y), (3, .int (nI kd))]) dL_act_170 (by decide) rfl ?_
        refine r_aload_n C 4 dL_act_172 rfl rfl ?_
        refine r_iconst C (v := nI 0) dL_act_173 (by decide) ?_
        refine r_dup2 C dL_act_174 rfl rfl ?_
        refine r_ialoadN C ((((KF.rf (F := F) (M := M)).tr hk10) na hna).1.trans hn20) ((((KF.rf (F := F) (M := M)).tr hk10) na hna).2.1.trans hn3) (by omega) (by omega) dL_act_175 ?_
        refine V.ei (y := nI n0) ((congrFun (((KF.rf (F := F) (M := M)).tr hk10) na hna).2.2.1 0).trans hn.1) ?_
        refine r_iload C 0 dL_act_176 rfl ?_
        refine r_if_ge C (t := 185) dL_act_178 (by decide) (fun c178 => ?_) (fun c178 => ?_)
        · skip
          refine r_iconst C (v := nI 1) dL_act_185 (by decide) ?_
          refine r_iaddN C dL_act_186 ?_
          refine r_iastoreN C ((((KF.rf (F := F) (M := M)).tr hk10) na hna).1.trans hn20) ((((KF.rf (F := F) (M := M)).tr hk10) na hna).2.1.trans hn3) (by decide) (by decide) dL_act_187 ?_
          refine r_iload C 0 dL_act_188 rfl ?_
          exact r_iret C hr (⟨told, Ux, n0 + 1, n1, n2, rfl, Or.inr (Or.inl (⟨lw3, lw4, lw5, lw6, false, lw8, lw9, hlw3, hlw4, hlw5, hlw6, hlw8, hlw9, fun h_ => absurd (bcase0 h_ elw3 elw7) c137, c89, hwr, by rw [if_neg (Int32.not_lt.mpr c178)], rfl, rfl⟩)), hwV, (hO10.wI hwV hna), (fun a_ ha_ hx_ => KF.ox ((KF.rf (F := F) (M := M)).tr hk10) ha_ hx_), (((KF.rf (F := F) (M := M)).tr hk10) na hna).1.trans hn20, (((KF.rf (F := F) (M := M)).tr hk10) na hna).2.1.trans hn3, AN.w0 (AN.kf hn ((KF.rf (F := F) (M := M)).tr hk10) hna) (rfl)⟩) (by first | exact Nat.zero_le _ | decide) (by first | exact Nat.zero_le _ | decide) dL_act_190
        · skip
          refine r_iconst C (v := nI 0) dL_act_181 (by decide) ?_
          refine r_goto C (t := 186) dL_act_182 (by decide) ?_
          refine r_iaddN C dL_act_186 ?_
          refine r_iastoreN C ((((KF.rf (F := F) (M := M)).tr hk10) na hna).1.trans hn20) ((((KF.rf (F := F) (M := M)).tr hk10) na hna).2.1.trans hn3) (by decide) (by decide) dL_act_187 ?_
          refine r_iload C 0 dL_act_188 rfl ?_
          exact r_iret C hr (⟨told, Ux, n0 + 0, n1, n2, rfl, Or.inr (Or.inl (⟨lw3, lw4, lw5, lw6, false, lw8, lw9, hlw3, hlw4, hlw5, hlw6, hlw8, hlw9, fun h_ => absurd (bcase0 h_ elw3 elw7) c137, c89, hwr, by rw [if_pos (Int32.not_le.mp c178)], rfl, rfl⟩)), hwV, (hO10.wI hwV hna), (fun a_ ha_ hx_ => KF.ox ((KF.rf (F := F) (M := M)).tr hk10) ha_ hx_), (((KF.rf (F := F) (M := M)).tr hk10) na hna).1.trans hn20, (((KF.rf (F := F) (M := M)).tr hk10) na hna).2.1.trans hn3, AN.w0 (AN.kf hn ((KF.rf (F := F) (M := M)).tr hk10) hna) (rfl)⟩) (by first | exact Nat.zero_le _ | decide) (by first | exact Nat.zero_le _ | decide) dL_act_190
      · skip
        refine r_iconst C (v := bI true) dL_act_140 (by decide) ?_
        refine r_goto C (t := 145) dL_act_141 (by decide) ?_
        refine r_bipush C (v := nI 50) dL_act_145 (by decide) ?_
        refine r_iload_n C 4 dL_act_147 rfl rfl ?_
        refine r_bipush C (v := nI 8) dL_act_148 (by decide) ?_
        refine r_ishr C dL_act_150 ?_
        refine r_sipush C (v := nI 500) dL_act_151 (by decide) ?_
        refine r_callS C hgX ml_L_79 st_L_low (c_L_low l hfl G M (y >>> ((nI 8) &&& 31)) 500 (by decide) (by decide)) rfl (Nat.le_of_ble_eq_true rfl) ⟨Nat.le_of_ble_eq_true rfl, Nat.le_of_ble_eq_true rfl⟩ ⟨Nat.le_of_ble_eq_true rfl, Nat.le_of_ble_eq_true rfl⟩ dL_act_154 rfl ?_
        rintro _ _ ⟨rfl, rfl⟩
        obtain ⟨lw11, hlw11, elw11⟩ : ∃ z_, z_ < 500 ∧ lwN (y >>> ((nI 8) &&& 31)) 500 = z_ := ⟨_, lwN_lt (by decide), rfl⟩
        rw [elw11]
        refine V.eSt (st' := [.int (nI lw11), .int (nI 50), .int (bI true), .int (nI lw6), .int (nI lw5), .int (nI lw4), .int (nI lw3), .ref q]) rfl ?_
        refine r_iaddN C dL_act_157 ?_
        refine r_iload_n C 4 dL_act_158 rfl rfl ?_
        refine r_iconst C (v := nI 5) dL_act_159 (by decide) ?_
        refine r_ishr C dL_act_160 ?_
        refine r_sipush C (v := nI 5000) dL_act_161 (by decide) ?_
        refine r_callS C hgX ml_L_79 st_L_low (c_L_low l hfl G M (y >>> ((nI 5) &&& 31)) 5000 (by decide) (by decide)) rfl (Nat.le_of_ble_eq_true rfl) ⟨Nat.le_of_ble_eq_true rfl, Nat.le_of_ble_eq_true rfl⟩ ⟨Nat.le_of_ble_eq_true rfl, Nat.le_of_ble_eq_true rfl⟩ dL_act_164 rfl ?_
        rintro _ _ ⟨rfl, rfl⟩
        obtain ⟨lw12, hlw12, elw12⟩ : ∃ z_, z_ < 5000 ∧ lwN (y >>> ((nI 5) &&& 31)) 5000 = z_ := ⟨_, lwN_lt (by decide), rfl⟩
        rw [elw12]
        refine V.eSt (st' := [.int (nI lw12), .int (nI (50 + lw11)), .int (bI true), .int (nI lw6), .int (nI lw5), .int (nI lw4), .int (nI lw3), .ref q]) rfl ?_
        refine r_callH C hgX hl_contracts (c_L_contracts l hfl G M τ hw q F hO had (nI lw3) (nI lw4) (nI lw5) (nI lw6) true (nI (50 + lw11)) (nI lw12) (fun h9_ => hk.n6 (Nat.lt_of_le_of_ne hw.nc.2 h9_))) rfl (Nat.le_of_ble_eq_true rfl) ⟨Nat.le_of_ble_eq_true rfl, Nat.le_of_ble_eq_true rfl⟩ ⟨Nat.le_of_ble_eq_true rfl, Nat.le_of_ble_eq_true rfl⟩ dL_act_167 rfl ?_
        intro v13 Mq13 hp13
        obtain ⟨told, Ux, hv13, hwr, hO13, hk13⟩ := WPo.i (ts := [(-2), (-3), (-4)]) hp13
        subst hv13
        have hwV : WF Ux := hwr.wf hw (fun h_ => (lk_contract hw hk hn9 h_).1)
        refine V.eSt (st' := [.int told]) rfl ?_
        refine r_istore C (lo' := [(6, .int told), (5, .int (nI lw2)), (4, .int (nI lw1)), (0, .ref q), (1, .ref na), (2, .int y), (3, .int (nI kd))]) dL_act_170 (by decide) rfl ?_
        refine r_aload_n C 4 dL_act_172 rfl rfl ?_
        refine r_iconst C (v := nI 0) dL_act_173 (by decide) ?_
        refine r_dup2 C dL_act_174 rfl rfl ?_
        refine r_ialoadN C ((((KF.rf (F := F) (M := M)).tr hk13) na hna).1.trans hn20) ((((KF.rf (F := F) (M := M)).tr hk13) na hna).2.1.trans hn3) (by omega) (by omega) dL_act_175 ?_
        refine V.ei (y := nI n0) ((congrFun (((KF.rf (F := F) (M := M)).tr hk13) na hna).2.2.1 0).trans hn.1) ?_
        refine r_iload C 0 dL_act_176 rfl ?_
        refine r_if_ge C (t := 185) dL_act_178 (by decide) (fun c178 => ?_) (fun c178 => ?_)
        · skip
          refine r_iconst C (v := nI 1) dL_act_185 (by decide) ?_
          refine r_iaddN C dL_act_186 ?_
          refine r_iastoreN C ((((KF.rf (F := F) (M := M)).tr hk13) na hna).1.trans hn20) ((((KF.rf (F := F) (M := M)).tr hk13) na hna).2.1.trans hn3) (by decide) (by decide) dL_act_187 ?_
          refine r_iload C 0 dL_act_188 rfl ?_
          exact r_iret C hr (⟨told, Ux, n0 + 1, n1, n2, rfl, Or.inr (Or.inl (⟨lw3, lw4, lw5, lw6, true, lw11, lw12, hlw3, hlw4, hlw5, hlw6, hlw11, hlw12, fun _ => rfl, c89, hwr, by rw [if_neg (Int32.not_lt.mpr c178)], rfl, rfl⟩)), hwV, (hO13.wI hwV hna), (fun a_ ha_ hx_ => KF.ox ((KF.rf (F := F) (M := M)).tr hk13) ha_ hx_), (((KF.rf (F := F) (M := M)).tr hk13) na hna).1.trans hn20, (((KF.rf (F := F) (M := M)).tr hk13) na hna).2.1.trans hn3, AN.w0 (AN.kf hn ((KF.rf (F := F) (M := M)).tr hk13) hna) (rfl)⟩) (by first | exact Nat.zero_le _ | decide) (by first | exact Nat.zero_le _ | decide) dL_act_190
        · skip
          refine r_iconst C (v := nI 0) dL_act_181 (by decide) ?_
          refine r_goto C (t := 186) dL_act_182 (by decide) ?_
          refine r_iaddN C dL_act_186 ?_
          refine r_iastoreN C ((((KF.rf (F := F) (M := M)).tr hk13) na hna).1.trans hn20) ((((KF.rf (F := F) (M := M)).tr hk13) na hna).2.1.trans hn3) (by decide) (by decide) dL_act_187 ?_
          refine r_iload C 0 dL_act_188 rfl ?_
          exact r_iret C hr (⟨told, Ux, n0 + 0, n1, n2, rfl, Or.inr (Or.inl (⟨lw3, lw4, lw5, lw6, true, lw11, lw12, hlw3, hlw4, hlw5, hlw6, hlw11, hlw12, fun _ => rfl, c89, hwr, by rw [if_pos (Int32.not_le.mp c178)], rfl, rfl⟩)), hwV, (hO13.wI hwV hna), (fun a_ ha_ hx_ => KF.ox ((KF.rf (F := F) (M := M)).tr hk13) ha_ hx_), (((KF.rf (F := F) (M := M)).tr hk13) na hna).1.trans hn20, (((KF.rf (F := F) (M := M)).tr hk13) na hna).2.1.trans hn3, AN.w0 (AN.kf hn ((KF.rf (F := F) (M := M)).tr hk13) hna) (rfl)⟩) (by first | exact Nat.zero_le _ | decide) (by first | exact Nat.zero_le _ | decide) dL_act_190
    · skip
      have hwV := hw
      refine r_bipush C (v := (-9)) dL_act_92 (by decide) ?_
      refine r_goto C (t := 170) dL_act_94 (by decide) ?_
      refine r_istore C (lo' := [(6, .int (-9)), (5, .int (nI lw2)), (4, .int (nI lw1)), (0, .ref q), (1, .ref na), (2, .int y), (3, .int (nI kd))]) dL_act_170 (by decide) rfl ?_
      refine r_aload_n C 4 dL_act_172 rfl rfl ?_
      refine r_iconst C (v := nI 0) dL_act_173 (by decide) ?_
      refine r_dup2 C dL_act_174 rfl rfl ?_
      refine r_ialoadN C (((KF.rf (F := F) (M := M)) na hna).1.trans hn20) (((KF.rf (F := F) (M := M)) na hna).2.1.trans hn3) (by omega) (by omega) dL_act_175 ?_
      refine V.ei (y := nI n0) ((congrFun ((KF.rf (F := F) (M := M)) na hna).2.2.1 0).trans hn.1) ?_
      refine r_iload C 0 dL_act_176 rfl ?_
      refine r_if_ge C (t := 185) dL_act_178 (by decide) (fun c178 => ?_) (fun c178 => ?_)
      · exact absurd c178 (by decide)
      · skip
        refine r_iconst C (v := nI 0) dL_act_181 (by decide) ?_
        refine r_goto C (t := 186) dL_act_182 (by decide) ?_
        refine r_iaddN C dL_act_186 ?_
        refine r_iastoreN C (((KF.rf (F := F) (M := M)) na hna).1.trans hn20) (((KF.rf (F := F) (M := M)) na hna).2.1.trans hn3) (by decide) (by decide) dL_act_187 ?_
        refine r_iload C 0 dL_act_188 rfl ?_
        exact r_iret C hr (⟨(-9), τ, n0, n1, n2, rfl, Or.inl (⟨rfl, rfl, rfl, rfl, rfl⟩), hw, (hO.wI hwV hna), (fun a_ ha_ hx_ => KF.ox (KF.rf (F := F) (M := M)) ha_ hx_), ((KF.rf (F := F) (M := M)) na hna).1.trans hn20, ((KF.rf (F := F) (M := M)) na hna).2.1.trans hn3, AN.w0 (AN.kf hn (KF.rf (F := F) (M := M)) hna) (rfl)⟩) (by first | exact Nat.zero_le _ | decide) (by first | exact Nat.zero_le _ | decide) dL_act_190
  · skip
    refine V.ei (y := nI 1) (congrArg nI sw18) ?_
    refine r_tabIn C (off := 173) (t := 191) dL_act_18 (by decide) (by decide) (by decide) (by decide) ?_
    refine r_aload_n C 2 dL_act_191 rfl rfl ?_
    refine r_iload_n C 4 dL_act_192 rfl rfl ?_
    refine r_aload_n C 3 dL_act_193 rfl rfl ?_
    refine r_iconst C (v := nI 0) dL_act_194 (by decide) ?_
    refine r_ialoadN C (((KF.rf (F := F) (M := M)) na hna).1.trans hn20) (((KF.rf (F := F) (M := M)) na hna).2.1.trans hn3) (by omega) (by omega) dL_act_195 ?_
    refine V.ei (y := nI n0) ((congrFun ((KF.rf (F := F) (M := M)) na hna).2.2.1 0).trans hn.1) ?_
    refine r_iconst C (v := nI 1) dL_act_196 (by decide) ?_
    refine r_iaddN C dL_act_197 ?_
    refine r_callS C hgX ml_L_79 st_L_low (c_L_low l hfl G M y (n0 + 1) (by omega) (by omega)) rfl (Nat.le_of_ble_eq_true rfl) ⟨Nat.le_of_ble_eq_true rfl, Nat.le_of_ble_eq_true rfl⟩ ⟨Nat.le_of_ble_eq_true rfl, Nat.le_of_ble_eq_true rfl⟩ dL_act_198 rfl ?_
    rintro _ _ ⟨rfl, rfl⟩
    obtain ⟨lw14, hlw14, elw14⟩ : ∃ z_, z_ < n0 + 1 ∧ lwN y (n0 + 1) = z_ := ⟨_, lwN_lt (by omega), rfl⟩
    rw [elw14]
    refine V.eSt (st' := [.int (nI lw14), .ref q]) rfl ?_
    refine r_iload_n C 4 dL_act_201 rfl rfl ?_
    refine r_iconst C (v := nI 3) dL_act_202 (by decide) ?_
    refine r_ishr C dL_act_203 ?_
    refine r_sipush C (v := nI 500) dL_act_204 (by decide) ?_
    refine r_callS C hgX ml_L_79 st_L_low (c_L_low l hfl G M (y >>> ((nI 3) &&& 31)) 500 (by decide) (by decide)) rfl (Nat.le_of_ble_eq_true rfl) ⟨Nat.le_of_ble_eq_true rfl, Nat.le_of_ble_eq_true rfl⟩ ⟨Nat.le_of_ble_eq_true rfl, Nat.le_of_ble_eq_true rfl⟩ dL_act_207 rfl ?_
    rintro _ _ ⟨rfl, rfl⟩
    obtain ⟨lw15, hlw15, elw15⟩ : ∃ z_, z_ < 500 ∧ lwN (y >>> ((nI 3) &&& 31)) 500 = z_ := ⟨_, lwN_lt (by decide), rfl⟩
    rw [elw15]
    refine V.eSt (st' := [.int (nI lw15), .int (nI lw14), .ref q]) rfl ?_
    refine r_iload_n C 4 dL_act_210 rfl rfl ?_
    refine r_bipush C (v := nI 6) dL_act_211 (by decide) ?_
    refine r_ishr C dL_act_213 ?_
    refine r_sipush C (v := nI 1450) dL_act_214 (by decide) ?_
    refine r_callS C hgX ml_L_79 st_L_low (c_L_low l hfl G M (y >>> ((nI 6) &&& 31)) 1450 (by decide) (by decide)) rfl (Nat.le_of_ble_eq_true rfl) ⟨Nat.le_of_ble_eq_true rfl, Nat.le_of_ble_eq_true rfl⟩ ⟨Nat.le_of_ble_eq_true rfl, Nat.le_of_ble_eq_true rfl⟩ dL_act_217 rfl ?_
    rintro _ _ ⟨rfl, rfl⟩
    obtain ⟨lw16, hlw16, elw16⟩ : ∃ z_, z_ < 1450 ∧ lwN (y >>> ((nI 6) &&& 31)) 1450 = z_ := ⟨_, lwN_lt (by decide), rfl⟩
    rw [elw16]
    refine V.eSt (st' := [.int (nI lw16), .int (nI lw15), .int (nI lw14), .ref q]) rfl ?_
    refine r_iload_n C 4 dL_act_220 rfl rfl ?_
    refine r_bipush C (v := nI 9) dL_act_221 (by decide) ?_
    refine r_ishr C dL_act_223 ?_
    refine r_sipush C (v := nI 1450) dL_act_224 (by decide) ?_
    refine r_callS C hgX ml_L_79 st_L_low (c_L_low l hfl G M (y >>> ((nI 9) &&& 31)) 1450 (by decide) (by decide)) rfl (Nat.le_of_ble_eq_true rfl) ⟨Nat.le_of_ble_eq_true rfl, Nat.le_of_ble_eq_true rfl⟩ ⟨Nat.le_of_ble_eq_true rfl, Nat.le_of_ble_eq_true rfl⟩ dL_act_227 rfl ?_
    rintro _ _ ⟨rfl, rfl⟩
    obtain ⟨lw17, hlw17, elw17⟩ : ∃ z_, z_ < 1450 ∧ lwN (y >>> ((nI 9) &&& 31)) 1450 = z_ := ⟨_, lwN_lt (by decide), rfl⟩
    rw [elw17]
    refine V.eSt (st' := [.int (nI lw17), .int (nI lw16), .int (nI lw15), .int (nI lw14), .ref q]) rfl ?_
    refine r_callH C hgX hl_shifts (c_L_shifts l hfl G M τ hw q F hO had (nI lw14) (nI lw15) (nI lw16) (nI lw17)) rfl (Nat.le_of_ble_eq_true rfl) ⟨Nat.le_of_ble_eq_true rfl, Nat.le_of_ble_eq_true rfl⟩ ⟨Nat.le_of_ble_eq_true rfl, Nat.le_of_ble_eq_true rfl⟩ dL_act_230 rfl ?_
    intro v18 Mq18 hp18
    obtain ⟨told, Ux, hv18, hwr, hO18, hk18⟩ := WPo.i (ts := [(-2), (-3), (-4)]) hp18
    subst hv18
    have hwV : WF Ux := hwr.wf hw (fun h_ => (lk_shift hw hk hn9 h_).1)
    refine V.eSt (st' := [.int told]) rfl ?_
    exact r_iret C hr (⟨told, Ux, n0, n1, n2, rfl, Or.inr (Or.inr (Or.inl (⟨lw14, lw15, lw16, lw17, hlw14, hlw15, hlw16, hlw17, hwr, rfl, rfl, rfl⟩))), hwV, hO18, (fun a_ ha_ _ => ((KF.rf (F := F) (M := M)).tr hk18) a_ ha_), (((KF.rf (F := F) (M := M)).tr hk18) na hna).1.trans hn20, (((KF.rf (F := F) (M := M)).tr hk18) na hna).2.1.trans hn3, AN.kf hn ((KF.rf (F := F) (M := M)).tr hk18) hna⟩) (by first | exact Nat.zero_le _ | decide) (by first | exact Nat.zero_le _ | decide) dL_act_233
  · skip
    refine V.ei (y := nI 2) (congrArg nI sw18) ?_
    refine r_tabIn C (off := 173) (t := 191) dL_act_18 (by decide) (by decide) (by decide) (by decide) ?_
    refine r_aload_n C 2 dL_act_191 rfl rfl ?_
    refine r_iload_n C 4 dL_act_192 rfl rfl ?_
    refine r_aload_n C 3 dL_act_193 rfl rfl ?_
    refine r_iconst C (v := nI 0) dL_act_194 (by decide) ?_
    refine r_ialoadN C (((KF.rf (F := F) (M := M)) na hna).1.trans hn20) (((KF.rf (F := F) (M := M)) na hna).2.1.trans hn3) (by omega) (by omega) dL_act_195 ?_
    refine V.ei (y := nI n0) ((congrFun ((KF.rf (F := F) (M := M)) na hna).2.2.1 0).trans hn.1) ?_
    refine r_iconst C (v := nI 1) dL_act_196 (by decide) ?_
    refine r_iaddN C dL_act_197 ?_
    refine r_callS C hgX ml_L_79 st_L_low (c_L_low l hfl G M y (n0 + 1) (by omega) (by omega)) rfl (Nat.le_of_ble_eq_true rfl) ⟨Nat.le_of_ble_eq_true rfl, Nat.le_of_ble_eq_true rfl⟩ ⟨Nat.le_of_ble_eq_true rfl, Nat.le_of_ble_eq_true rfl⟩ dL_act_198 rfl ?_
    rintro _ _ ⟨rfl, rfl⟩
    obtain ⟨lw19, hlw19, elw19⟩ : ∃ z_, z_ < n0 + 1 ∧ lwN y (n0 + 1) = z_ := ⟨_, lwN_lt (by omega), rfl⟩
    rw [elw19]
    refine V.eSt (st' := [.int (nI lw19), .ref q]) rfl ?_
    refine r_iload_n C 4 dL_act_201 rfl rfl ?_
    refine r_iconst C (v := nI 3) dL_act_202 (by decide) ?_
    refine r_ishr C dL_act_203 ?_
    refine r_sipush C (v := nI 500) dL_act_204 (by decide) ?_
    refine r_callS C hgX ml_L_79 st_L_low (c_L_low l hfl G M (y >>> ((nI 3) &&& 31)) 500 (by decide) (by decide)) rfl (Nat.le_of_ble_eq_true rfl) ⟨Nat.le_of_ble_eq_true rfl, Nat.le_of_ble_eq_true rfl⟩ ⟨Nat.le_of_ble_eq_true rfl, Nat.le_of_ble_eq_true rfl⟩ dL_act_207 rfl ?_
    rintro _ _ ⟨rfl, rfl⟩
    obtain ⟨lw20, hlw20, elw20⟩ : ∃ z_, z_ < 500 ∧ lwN (y >>> ((nI 3) &&& 31)) 500 = z_ := ⟨_, lwN_lt (by decide), rfl⟩
    rw [elw20]
    refine V.eSt (st' := [.int (nI lw20), .int (nI lw19), .ref q]) rfl ?_
    refine r_iload_n C 4 dL_act_210 rfl rfl ?_
    refine r_bipush C (v := nI 6) dL_act_211 (by decide) ?_
    refine r_ishr C dL_act_213 ?_
    refine r_sipush C (v := nI 1450) dL_act_214 (by decide) ?_
    refine r_callS C hgX ml_L_79 st_L_low (c_L_low l hfl G M (y >>> ((nI 6) &&& 31)) 1450 (by decide) (by decide)) rfl (Nat.le_of_ble_eq_true rfl) ⟨Nat.le_of_ble_eq_true rfl, Nat.le_of_ble_eq_true rfl⟩ ⟨Nat.le_of_ble_eq_true rfl, Nat.le_of_ble_eq_true rfl⟩ dL_act_217 rfl ?_
    rintro _ _ ⟨rfl, rfl⟩
    obtain ⟨lw21, hlw21, elw21⟩ : ∃ z_, z_ < 1450 ∧ lwN (y >>> ((nI 6) &&& 31)) 1450 = z_ := ⟨_, lwN_lt (by decide), rfl⟩
    rw [elw21]
    refine V.eSt (st' := [.int (nI lw21), .int (nI lw20), .int (nI lw19), .ref q]) rfl ?_
    refine r_iload_n C 4 dL_act_220 rfl rfl ?_
    refine r_bipush C (v := nI 9) dL_act_221 (by decide) ?_
    refine r_ishr C dL_act_223 ?_
    refine r_sipush C (v := nI 1450) dL_act_224 (by decide) ?_
    refine r_callS C hgX ml_L_79 st_L_low (c_L_low l hfl G M (y >>> ((nI 9) &&& 31)) 1450 (by decide) (by decide)) rfl (Nat.le_of_ble_eq_true rfl) ⟨Nat.le_of_ble_eq_true rfl, Nat.le_of_ble_eq_true rfl⟩ ⟨Nat.le_of_ble_eq_true rfl, Nat.le_of_ble_eq_true rfl⟩ dL_act_227 rfl ?_
    rintro _ _ ⟨rfl, rfl⟩
    obtain ⟨lw22, hlw22, elw22⟩ : ∃ z_, z_ < 1450 ∧ lwN (y >>> ((nI 9) &&& 31)) 1450 = z_ := ⟨_, lwN_lt (by decide), rfl⟩
    rw [elw22]
    refine V.eSt (st' := [.int (nI lw22), .int (nI lw21), .int (nI lw20), .int (nI lw19), .ref q]) rfl ?_
    refine r_callH C hgX hl_shifts (c_L_shifts l hfl G M τ hw q F hO had (nI lw19) (nI lw20) (nI lw21) (nI lw22)) rfl (Nat.le_of_ble_eq_true rfl) ⟨Nat.le_of_ble_eq_true rfl, Nat.le_of_ble_eq_true rfl⟩ ⟨Nat.le_of_ble_eq_true rfl, Nat.le_of_ble_eq_true rfl⟩ dL_act_230 rfl ?_
    intro v23 Mq23 hp23
    obtain ⟨told, Ux, hv23, hwr, hO23, hk23⟩ := WPo.i (ts := [(-2), (-3), (-4)]) hp23
    subst hv23
    have hwV : WF Ux := hwr.wf hw (fun h_ => (lk_shift hw hk hn9 h_).1)
    refine V.eSt (st' := [.int told]) rfl ?_
    exact r_iret C hr (⟨told, Ux, n0, n1, n2, rfl, Or.inr (Or.inr (Or.inl (⟨lw19, lw20, lw21, lw22, hlw19, hlw20, hlw21, hlw22, hwr, rfl, rfl, rfl⟩))), hwV, hO23, (fun a_ ha_ _ => ((KF.rf (F := F) (M := M)).tr hk23) a_ ha_), (((KF.rf (F := F) (M := M)).tr hk23) na hna).1.trans hn20, (((KF.rf (F := F) (M := M)).tr hk23) na hna).2.1.trans hn3, AN.kf hn ((KF.rf (F := F) (M := M)).tr hk23) hna⟩) (by first | exact Nat.zero_le _ | decide) (by first | exact Nat.zero_le _ | decide) dL_act_233
  · skip
    refine V.ei (y := nI 3) (congrArg nI sw18) ?_
    refine r_tabIn C (off := 216) (t := 234) dL_act_18 (by decide) (by decide) (by decide) (by decide) ?_
    refine r_aload_n C 2 dL_act_234 rfl rfl ?_
    refine r_iload_n C 4 dL_act_235 rfl rfl ?_
    refine r_aload_n C 3 dL_act_236 rfl rfl ?_
    refine r_iconst C (v := nI 0) dL_act_237 (by decide) ?_
    refine r_ialoadN C (((KF.rf (F := F) (M := M)) na hna).1.trans hn20) (((KF.rf (F := F) (M := M)) na hna).2.1.trans hn3) (by omega) (by omega) dL_act_238 ?_
    refine V.ei (y := nI n0) ((congrFun ((KF.rf (F := F) (M := M)) na hna).2.2.1 0).trans hn.1) ?_
    refine r_iconst C (v := nI 1) dL_act_239 (by decide) ?_
    refine r_iaddN C dL_act_240 ?_
    refine r_callS C hgX ml_L_79 st_L_low (c_L_low l hfl G M y (n0 + 1) (by omega) (by omega)) rfl (Nat.le_of_ble_eq_true rfl) ⟨Nat.le_of_ble_eq_true rfl, Nat.le_of_ble_eq_true rfl⟩ ⟨Nat.le_of_ble_eq_true rfl, Nat.le_of_ble_eq_true rfl⟩ dL_act_241 rfl ?_
    rintro _ _ ⟨rfl, rfl⟩
    obtain ⟨lw24, hlw24, elw24⟩ : ∃ z_, z_ < n0 + 1 ∧ lwN y (n0 + 1) = z_ := ⟨_, lwN_lt (by omega), rfl⟩
    rw [elw24]
    refine V.eSt (st' := [.int (nI lw24), .ref q]) rfl ?_
    refine r_iload_n C 4 dL_act_244 rfl rfl ?_
    refine r_iconst C (v := nI 3) dL_act_245 (by decide) ?_
    refine r_ishr C dL_act_246 ?_
    refine r_sipush C (v := nI 700) dL_act_247 (by decide) ?_
    refine r_callS C hgX ml_L_79 st_L_low (c_L_low l hfl G M (y >>> ((nI 3) &&& 31)) 700 (by decide) (by decide)) rfl (Nat.le_of_ble_eq_true rfl) ⟨Nat.le_of_ble_eq_true rfl, Nat.le_of_ble_eq_true rfl⟩ ⟨Nat.le_of_ble_eq_true rfl, Nat.le_of_ble_eq_true rfl⟩ dL_act_250 rfl ?_
    rintro _ _ ⟨rfl, rfl⟩
    obtain ⟨lw25, hlw25, elw25⟩ : ∃ z_, z_ < 700 ∧ lwN (y >>> ((nI 3) &&& 31)) 700 = z_ := ⟨_, lwN_lt (by decide), rfl⟩
    rw [elw25]
    refine V.eSt (st' := [.int (nI lw25), .int (nI lw24), .ref q]) rfl ?_
    refine r_callH C hgX hl_leaves (c_L_leaves l hfl G M τ hw q F hO had (nI lw24) (nI lw25)) rfl (Nat.le_of_ble_eq_true rfl) ⟨Nat.le_of_ble_eq_true rfl, Nat.le_of_ble_eq_true rfl⟩ ⟨Nat.le_of_ble_eq_true rfl, Nat.le_of_ble_eq_true rfl⟩ dL_act_253 rfl ?_
    intro v26 Mq26 hp26
    obtain ⟨told, Ux, hv26, hwr, hO26, hk26⟩ := WPo.i (ts := [(-2), (-4)]) hp26
    subst hv26
    have hwV : WF Ux := hwr.wf hw (fun h_ => (lk_leave hw hk hn9 h_).1)
    refine V.eSt (st' := [.int told]) rfl ?_
    exact r_iret C hr (⟨told, Ux, n0, n1, n2, rfl, Or.inr (Or.inr (Or.inr (Or.inl (⟨lw24, lw25, hlw24, hlw25, hwr, rfl, rfl, rfl⟩)))), hwV, hO26, (fun a_ ha_ _ => ((KF.rf (F := F) (M := M)).tr hk26) a_ ha_), (((KF.rf (F := F) (M := M)).tr hk26) na hna).1.trans hn20, (((KF.rf (F := F) (M := M)).tr hk26) na hna).2.1.trans hn3, AN.kf hn ((KF.rf (F := F) (M := M)).tr hk26) hna⟩) (by first | exact Nat.zero_le _ | decide) (by first | exact Nat.zero_le _ | decide) dL_act_256
  · skip
    refine V.ei (y := nI 4) (congrArg nI sw18) ?_
    refine r_tabIn C (off := 239) (t := 257) dL_act_18 (by decide) (by decide) (by decide) (by decide) ?_
    refine r_aload_n C 2 dL_act_257 rfl rfl ?_
    refine r_iload_n C 4 dL_act_258 rfl rfl ?_
    refine r_bipush C (v := nI 11) dL_act_259 (by decide) ?_
    refine r_callS C hgX ml_L_79 st_L_low (c_L_low l hfl G M y 11 (by decide) (by decide)) rfl (Nat.le_of_ble_eq_true rfl) ⟨Nat.le_of_ble_eq_true rfl, Nat.le_of_ble_eq_true rfl⟩ ⟨Nat.le_of_ble_eq_true rfl, Nat.le_of_ble_eq_true rfl⟩ dL_act_261 rfl ?_
    rintro _ _ ⟨rfl, rfl⟩
    obtain ⟨lw27, hlw27, elw27⟩ : ∃ z_, z_ < 11 ∧ lwN y 11 = z_ := ⟨_, lwN_lt (by decide), rfl⟩
    rw [elw27]
    refine V.eSt (st' := [.int (nI lw27), .ref q]) rfl ?_
    refine r_iload_n C 4 dL_act_264 rfl rfl ?_
    refine r_iconst C (v := nI 4) dL_act_265 (by decide) ?_
    refine r_ishr C dL_act_266 ?_
    refine r_bipush C (v := nI 7) dL_act_267 (by decide) ?_
    refine r_callS C hgX ml_L_79 st_L_low (c_L_low l hfl G M (y >>> ((nI 4) &&& 31)) 7 (by decide) (by decide)) rfl (Nat.le_of_ble_eq_true rfl) ⟨Nat.le_of_ble_eq_true rfl, Nat.le_of_ble_eq_true rfl⟩ ⟨Nat.le_of_ble_eq_true rfl, Nat.le_of_ble_eq_true rfl⟩ dL_act_269 rfl ?_
    rintro _ _ ⟨rfl, rfl⟩
    obtain ⟨lw28, hlw28, elw28⟩ : ∃ z_, z_ < 7 ∧ lwN (y >>> ((nI 4) &&& 31)) 7 = z_ := ⟨_, lwN_lt (by decide), rfl⟩
    rw [elw28]
    refine V.eSt (st' := [.int (nI lw28), .int (nI lw27), .ref q]) rfl ?_
    refine r_callH C hgX hl_words (c_L_words l hfl G M τ hw q F hO had (nI lw27) (nI lw28)) rfl (Nat.le_of_ble_eq_true rfl) ⟨Nat.le_of_ble_eq_true rfl, Nat.le_of_ble_eq_true rfl⟩ ⟨Nat.le_of_ble_eq_true rfl, Nat.le_of_ble_eq_true rfl⟩ dL_act_272 rfl ?_
    intro v29 Mq29 hp29
    obtain ⟨told, Ux, hv29, hwr, hO29, hk29⟩ := WPo.i (ts := [(-3), (-4)]) hp29
    subst hv29
    have hwV : WF Ux := hwr.wf hw (fun h_ => (lk_word hw hk hn9 h_).1)
    refine V.eSt (st' := [.int told]) rfl ?_
    exact r_iret C hr (⟨told, Ux, n0, n1, n2, rfl, Or.inr (Or.inr (Or.inr (Or.inr (Or.inl (⟨lw27, lw28, hlw27, hlw28, hwr, rfl, rfl, rfl⟩))))), hwV, hO29, (fun a_ ha_ _ => ((KF.rf (F := F) (M := M)).tr hk29) a_ ha_), (((KF.rf (F := F) (M := M)).tr hk29) na hna).1.trans hn20, (((KF.rf (F := F) (M := M)).tr hk29) na hna).2.1.trans hn3, AN.kf hn ((KF.rf (F := F) (M := M)).tr hk29) hna⟩) (by first | exact Nat.zero_le _ | decide) (by first | exact Nat.zero_le _ | decide) dL_act_275
  · skip
    refine V.ei (y := nI 5) (congrArg nI sw18) ?_
    refine r_tabIn C (off := 258) (t := 276) dL_act_18 (by decide) (by decide) (by decide) (by decide) ?_
    refine r_aload_n C 2 dL_act_276 rfl rfl ?_
    refine r_iload_n C 4 dL_act_277 rfl rfl ?_
    refine r_aload_n C 3 dL_act_278 rfl rfl ?_
    refine r_iconst C (v := nI 1) dL_act_279 (by decide) ?_
    refine r_ialoadN C (((KF.rf (F := F) (M := M)) na hna).1.trans hn20) (((KF.rf (F := F) (M := M)) na hna).2.1.trans hn3) (by omega) (by omega) dL_act_280 ?_
    refine V.ei (y := nI n1) ((congrFun ((KF.rf (F := F) (M := M)) na hna).2.2.1 1).trans hn.2.1) ?_
    refine r_iconst C (v := nI 2) dL_act_281 (by decide) ?_
    refine r_iaddN C dL_act_282 ?_
    refine r_callS C hgX ml_L_79 st_L_low (c_L_low l hfl G M y (n1 + 2) (by omega) (by omega)) rfl (Nat.le_of_ble_eq_true rfl) ⟨Nat.le_of_ble_eq_true rfl, Nat.le_of_ble_eq_true rfl⟩ ⟨Nat.le_of_ble_eq_true rfl, Nat.le_of_ble_eq_true rfl⟩ dL_act_283 rfl ?_
    rintro _ _ ⟨rfl, rfl⟩
    obtain ⟨lw30, hlw30, elw30⟩ : ∃ z_, z_ < n1 + 2 ∧ lwN y (n1 + 2) = z_ := ⟨_, lwN_lt (by omega), rfl⟩
    rw [elw30]
    refine V.eSt (st' := [.int (nI lw30), .ref q]) rfl ?_
    refine r_iload_n C 4 dL_act_286 rfl rfl ?_
    refine r_iconst C (v := nI 3) dL_act_287 (by decide) ?_
    refine r_ishr C dL_act_288 ?_
    refine r_bipush C (v := nI 65) dL_act_289 (by decide) ?_
    refine r_callS C hgX ml_L_79 st_L_low (c_L_low l hfl G M (y >>> ((nI 3) &&& 31)) 65 (by decide) (by decide)) rfl (Nat.le_of_ble_eq_true rfl) ⟨Nat.le_of_ble_eq_true rfl, Nat.le_of_ble_eq_true rfl⟩ ⟨Nat.le_of_ble_eq_true rfl, Nat.le_of_ble_eq_true rfl⟩ dL_act_291 rfl ?_
    rintro _ _ ⟨rfl, rfl⟩
    obtain ⟨lw31, hlw31, elw31⟩ : ∃ z_, z_ < 65 ∧ lwN (y >>> ((nI 3) &&& 31)) 65 = z_ := ⟨_, lwN_lt (by decide), rfl⟩
    rw [elw31]
    refine V.eSt (st' := [.int (nI lw31), .int (nI lw30), .ref q]) rfl ?_
    refine r_callH C hgX hl_elements (c_L_elements l hfl G M τ hw q F hO had (nI lw30) (nI lw31)) rfl (Nat.le_of_ble_eq_true rfl) ⟨Nat.le_of_ble_eq_true rfl, Nat.le_of_ble_eq_true rfl⟩ ⟨Nat.le_of_ble_eq_true rfl, Nat.le_of_ble_eq_true rfl⟩ dL_act_294 rfl ?_
    intro v32 Mq32 hp32
    obtain ⟨told, Ux, hv32, hwr, hO32, hk32⟩ := WPo.i (ts := [(-2), (-3), (-4)]) hp32
    subst hv32
    have hwV : WF Ux := hwr.wf hw (fun h_ => (lk_element hw hk hn9 h_).1)
    refine V.eSt (st' := [.int told]) rfl ?_
    refine r_istore C (lo' := [(6, .int told), (5, .int (nI lw2)), (4, .int (nI lw1)), (0, .ref q), (1, .ref na), (2, .int y), (3, .int (nI kd))]) dL_act_297 (by decide) rfl ?_
    refine r_aload_n C 4 dL_act_299 rfl rfl ?_
    refine r_iconst C (v := nI 1) dL_act_300 (by decide) ?_
    refine r_dup2 C dL_act_301 rfl rfl ?_
    refine r_ialoadN C ((((KF.rf (F := F) (M := M)).tr hk32) na hna).1.trans hn20) ((((KF.rf (F := F) (M := M)).tr hk32) na hna).2.1.trans hn3) (by omega) (by omega) dL_act_302 ?_
    refine V.ei (y := nI n1) ((congrFun (((KF.rf (F := F) (M := M)).tr hk32) na hna).2.2.1 1).trans hn.2.1) ?_
    refine r_iload C 0 dL_act_303 rfl ?_
    refine r_aload_n C 4 dL_act_305 rfl rfl ?_
    refine r_iconst C (v := nI 1) dL_act_306 (by decide) ?_
    refine r_ialoadN C ((((KF.rf (F := F) (M := M)).tr hk32) na hna).1.trans hn20) ((((KF.rf (F := F) (M := M)).tr hk32) na hna).2.1.trans hn3) (by omega) (by omega) dL_act_307 ?_
    refine V.ei (y := nI n1) ((congrFun (((KF.rf (F := F) (M := M)).tr hk32) na hna).2.2.1 1).trans hn.2.1) ?_
    refine r_iconst C (v := nI 1) dL_act_308 (by decide) ?_
    refine r_iaddN C dL_act_309 ?_
    refine r_icmp_ne C (t := 317) dL_act_310 (by decide) (fun c310 => ?_) (fun c310 => ?_)
    · skip
      refine r_iconst C (v := nI 0) dL_act_317 (by decide) ?_
      refine r_iaddN C dL_act_318 ?_
      refine r_iastoreN C ((((KF.rf (F := F) (M := M)).tr hk32) na hna).1.trans hn20) ((((KF.rf (F := F) (M := M)).tr hk32) na hna).2.1.trans hn3) (by decide) (by decide) dL_act_319 ?_
      refine r_iload C 0 dL_act_320 rfl ?_
      exact r_iret C hr (⟨told, Ux, n0, n1 + 0, n2, rfl, Or.inr (Or.inr (Or.inr (Or.inr (Or.inr (Or.inl (⟨lw30, lw31, hlw30, hlw31, hwr, rfl, by rw [if_neg c310], rfl⟩)))))), hwV, (hO32.wI hwV hna), (fun a_ ha_ hx_ => KF.ox ((KF.rf (F := F) (M := M)).tr hk32) ha_ hx_), (((KF.rf (F := F) (M := M)).tr hk32) na hna).1.trans hn20, (((KF.rf (F := F) (M := M)).tr hk32) na hna).2.1.trans hn3, AN.w1 (AN.kf hn ((KF.rf (F := F) (M := M)).tr hk32) hna) (rfl)⟩) (by first | exact Nat.zero_le _ | decide) (by first | exact Nat.zero_le _ | decide) dL_act_322
    · skip
      refine r_iconst C (v := nI 1) dL_act_313 (by decide) ?_
      refine r_goto C (t := 318) dL_act_314 (by decide) ?_
      refine r_iaddN C dL_act_318 ?_
      refine r_iastoreN C ((((KF.rf (F := F) (M := M)).tr hk32) na hna).1.trans hn20) ((((KF.rf (F := F) (M := M)).tr hk32) na hna).2.1.trans hn3) (by decide) (by decide) dL_act_319 ?_
      refine r_iload C 0 dL_act_320 rfl ?_
      exact r_iret C hr (⟨told, Ux, n0, n1 + 1, n2, rfl, Or.inr (Or.inr (Or.inr (Or.inr (Or.inr (Or.inl (⟨lw30, lw31, hlw30, hlw31, hwr, rfl, by rw [if_pos c310], rfl⟩)))))), hwV, (hO32.wI hwV hna), (fun a_ ha_ hx_ => KF.ox ((KF.rf (F := F) (M := M)).tr hk32) ha_ hx_), (((KF.rf (F := F) (M := M)).tr hk32) na hna).1.trans hn20, (((KF.rf (F := F) (M := M)).tr hk32) na hna).2.1.trans hn3, AN.w1 (AN.kf hn ((KF.rf (F := F) (M := M)).tr hk32) hna) (rfl)⟩) (by first | exact Nat.zero_le _ | decide) (by first | exact Nat.zero_le _ | decide) dL_act_322
  · skip
    refine V.ei (y := nI 6) (congrArg nI sw18) ?_
    refine r_tabIn C (off := 305) (t := 323) dL_act_18 (by decide) (by decide) (by decide) (by decide) ?_
    refine r_aload_n C 2 dL_act_323 rfl rfl ?_
    refine r_iload_n C 4 dL_act_324 rfl rfl ?_
    refine r_iconst C (v := nI 4) dL_act_325 (by decide) ?_
    refine r_callS C hgX ml_L_79 st_L_low (c_L_low l hfl G M y 4 (by decide) (by decide)) rfl (Nat.le_of_ble_eq_true rfl) ⟨Nat.le_of_ble_eq_true rfl, Nat.le_of_ble_eq_true rfl⟩ ⟨Nat.le_of_ble_eq_true rfl, Nat.le_of_ble_eq_true rfl⟩ dL_act_326 rfl ?_
    rintro _ _ ⟨rfl, rfl⟩
    obtain ⟨lw33, hlw33, elw33⟩ : ∃ z_, z_ < 4 ∧ lwN y 4 = z_ := ⟨_, lwN_lt (by decide), rfl⟩
    rw [elw33]
    refine V.eSt (st' := [.int (nI lw33), .ref q]) rfl ?_
    refine r_iload_n C 4 dL_act_329 rfl rfl ?_
    refine r_iconst C (v := nI 2) dL_act_330 (by decide) ?_
    refine r_ishr C dL_act_331 ?_
    refine r_iconst C (v := nI 3) dL_act_332 (by decide) ?_
    refine r_callS C hgX ml_L_79 st_L_low (c_L_low l hfl G M (y >>> ((nI 2) &&& 31)) 3 (by decide) (by decide)) rfl (Nat.le_of_ble_eq_true rfl) ⟨Nat.le_of_ble_eq_true rfl, Nat.le_of_ble_eq_true rfl⟩ ⟨Nat.le_of_ble_eq_true rfl, Nat.le_of_ble_eq_true rfl⟩ dL_act_333 rfl ?_
    rintro _ _ ⟨rfl, rfl⟩
    obtain ⟨lw34, hlw34, elw34⟩ : ∃ z_, z_ < 3 ∧ lwN (y >>> ((nI 2) &&& 31)) 3 = z_ := ⟨_, lwN_lt (by decide), rfl⟩
    rw [elw34]
    refine V.eSt (st' := [.int (nI lw34), .int (nI lw33), .ref q]) rfl ?_
    refine r_iload C 0 dL_act_336 rfl ?_
    refine r_iload_n C 4 dL_act_338 rfl rfl ?_
    refine r_iconst C (v := nI 4) dL_act_339 (by decide) ?_
    refine r_ishr C dL_act_340 ?_
    refine r_ldc C (v := 900000) ki_L_120 dL_act_341 ?_
    refine V.ei (y := nI 900000) (by decide) ?_
    refine r_callS C hgX ml_L_79 st_L_low (c_L_low l hfl G M (y >>> ((nI 4) &&& 31)) 900000 (by decide) (by decide)) rfl (Nat.le_of_ble_eq_true rfl) ⟨Nat.le_of_ble_eq_true rfl, Nat.le_of_ble_eq_true rfl⟩ ⟨Nat.le_of_ble_eq_true rfl, Nat.le_of_ble_eq_true rfl⟩ dL_act_343 rfl ?_
    rintro _ _ ⟨rfl, rfl⟩
    obtain ⟨lw35, hlw35, elw35⟩ : ∃ z_, z_ < 900000 ∧ lwN (y >>> ((nI 4) &&& 31)) 900000 = z_ := ⟨_, lwN_lt (by decide), rfl⟩
    rw [elw35]
    refine V.eSt (st' := [.int (nI lw35), .int (nI lw2), .int (nI lw34), .int (nI lw33), .ref q]) rfl ?_
    refine r_iload_n C 4 dL_act_346 rfl rfl ?_
    refine r_bipush C (v := nI 6) dL_act_347 (by decide) ?_
    refine r_ishr C dL_act_349 ?_
    refine r_sipush C (v := nI 901) dL_act_350 (by decide) ?_
    refine r_callS C hgX ml_L_79 st_L_low (c_L_low l hfl G M (y >>> ((nI 6) &&& 31)) 901 (by decide) (by decide)) rfl (Nat.le_of_ble_eq_true rfl) ⟨Nat.le_of_ble_eq_true rfl, Nat.le_of_ble_eq_true rfl⟩ ⟨Nat.le_of_ble_eq_true rfl, Nat.le_of_ble_eq_true rfl⟩ dL_act_353 rfl ?_
    rintro _ _ ⟨rfl, rfl⟩
    obtain ⟨lw36, hlw36, elw36⟩ : ∃ z_, z_ < 901 ∧ lwN (y >>> ((nI 6) &&& 31)) 901 = z_ := ⟨_, lwN_lt (by decide), rfl⟩
    rw [elw36]
    refine V.eSt (st' := [.int (nI lw36), .int (nI lw35), .int (nI lw2), .int (nI lw34), .int (nI lw33), .ref q]) rfl ?_
    refine r_callH C hgX hl_brackets (c_L_brackets l hfl G M τ hw q F hO had (nI lw33) (nI lw34) (nI lw2) (nI lw35) (nI lw36)) rfl (Nat.le_of_ble_eq_true rfl) ⟨Nat.le_of_ble_eq_true rfl, Nat.le_of_ble_eq_true rfl⟩ ⟨Nat.le_of_ble_eq_true rfl, Nat.le_of_ble_eq_true rfl⟩ dL_act_356 rfl ?_
    intro v37 Mq37 hp37
    obtain ⟨told, Ux, hv37, hwr, hO37, hk37⟩ := WPo.i (ts := [(-2), (-3), (-4)]) hp37
    subst hv37
    have hwV : WF Ux := hwr.wf hw (fun h_ => (lk_bracket hw hk hn9 h_).1)
    refine V.eSt (st' := [.int told]) rfl ?_
    exact r_iret C hr (⟨told, Ux, n0, n1, n2, rfl, Or.inr (Or.inr (Or.inr (Or.inr (Or.inr (Or.inr (Or.inl (⟨lw33, lw34, lw2, lw35, lw36, hlw33, hlw34, hlw2, hlw35, hlw36, hwr, rfl, rfl, rfl⟩))))))), hwV, hO37, (fun a_ ha_ _ => ((KF.rf (F := F) (M := M)).tr hk37) a_ ha_), (((KF.rf (F := F) (M := M)).tr hk37) na hna).1.trans hn20, (((KF.rf (F := F) (M := M)).tr hk37) na hna).2.1.trans hn3, AN.kf hn ((KF.rf (F := F) (M := M)).tr hk37) hna⟩) (by first | exact Nat.zero_le _ | decide) (by first | exact Nat.zero_le _ | decide) dL_act_359
  · skip
    refine V.ei (y := nI 7) (congrArg nI sw18) ?_
    refine r_tabIn C (off := 342) (t := 360) dL_act_18 (by decide) (by decide) (by decide) (by decide) ?_
    refine r_aload_n C 3 dL_act_360 rfl rfl ?_
    refine r_iconst C (v := nI 2) dL_act_361 (by decide) ?_
    refine r_ialoadN C (((KF.rf (F := F) (M := M)) na hna).1.trans hn20) (((KF.rf (F := F) (M := M)) na hna).2.1.trans hn3) (by omega) (by omega) dL_act_362 ?_
    refine V.ei (y := nI n2) ((congrFun ((KF.rf (F := F) (M := M)) na hna).2.2.1 2).trans hn.2.2) ?_
    refine r_iconst C (v := nI 5) dL_act_363 (by decide) ?_
    refine r_icmp_neN C (t := 372) (by omega) (by omega) dL_act_364 (by decide) (fun c364 => ?_) (fun c364 => ?_)
    · skip
      refine r_aload_n C 2 dL_act_372 rfl rfl ?_
      refine r_iload C 1 dL_act_373 rfl ?_
      refine r_iload C 0 dL_act_375 rfl ?_
      refine r_iload_n C 4 dL_act_377 rfl rfl ?_
      refine r_iconst C (v := nI 5) dL_act_378 (by decide) ?_
      refine r_ishr C dL_act_379 ?_
      refine r_bipush C (v := nI 11) dL_act_380 (by decide) ?_
      refine r_callS C hgX ml_L_79 st_L_low (c_L_low l hfl G M (y >>> ((nI 5) &&& 31)) 11 (by decide) (by decide)) rfl (Nat.le_of_ble_eq_true rfl) ⟨Nat.le_of_ble_eq_true rfl, Nat.le_of_ble_eq_true rfl⟩ ⟨Nat.le_of_ble_eq_true rfl, Nat.le_of_ble_eq_true rfl⟩ dL_act_382 rfl ?_
      rintro _ _ ⟨rfl, rfl⟩
      obtain ⟨lw38, hlw38, elw38⟩ : ∃ z_, z_ < 11 ∧ lwN (y >>> ((nI 5) &&& 31)) 11 = z_ := ⟨_, lwN_lt (by decide), rfl⟩
      rw [elw38]
      refine V.eSt (st' := [.int (nI lw38), .int (nI lw2), .int (nI lw1), .ref q]) rfl ?_
      refine r_iload_n C 4 dL_act_385 rfl rfl ?_
      refine r_bipush C (v := nI 6) dL_act_386 (by decide) ?_
      refine r_ishr C dL_act_388 ?_
      refine r_ldc C (v := 90000) ki_L_125 dL_act_389 ?_
      refine V.ei (y := nI 90000) (by decide) ?_
      refine r_callS C hgX ml_L_79 st_L_low (c_L_low l hfl G M (y >>> ((nI 6) &&& 31)) 90000 (by decide) (by decide)) rfl (Nat.le_of_ble_eq_true rfl) ⟨Nat.le_of_ble_eq_true rfl, Nat.le_of_ble_eq_true rfl⟩ ⟨Nat.le_of_ble_eq_true rfl, Nat.le_of_ble_eq_true rfl⟩ dL_act_391 rfl ?_
      rintro _ _ ⟨rfl, rfl⟩
      obtain ⟨lw39, hlw39, elw39⟩ : ∃ z_, z_ < 90000 ∧ lwN (y >>> ((nI 6) &&& 31)) 90000 = z_ := ⟨_, lwN_lt (by decide), rfl⟩
      rw [elw39]
      refine V.eSt (st' := [.int (nI lw39), .int (nI lw38), .int (nI lw2), .int (nI lw1), .ref q]) rfl ?_
      refine r_iload_n C 4 dL_act_394 rfl rfl ?_
      refine r_bipush C (v := nI 8) dL_act_395 (by decide) ?_
      refine r_ishr C dL_act_397 ?_
      refine r_sipush C (v := nI 1002) dL_act_398 (by decide) ?_
      refine r_callS C hgX ml_L_79 st_L_low (c_L_low l hfl G M (y >>> ((nI 8) &&& 31)) 1002 (by decide) (by decide)) rfl (Nat.le_of_ble_eq_true rfl) ⟨Nat.le_of_ble_eq_true rfl, Nat.le_of_ble_eq_true rfl⟩ ⟨Nat.le_of_ble_eq_true rfl, Nat.le_of_ble_eq_true rfl⟩ dL_act_401 rfl ?_
      rintro _ _ ⟨rfl, rfl⟩
      obtain ⟨lw40, hlw40, elw40⟩ : ∃ z_, z_ < 1002 ∧ lwN (y >>> ((nI 8) &&& 31)) 1002 = z_ := ⟨_, lwN_lt (by decide), rfl⟩
      rw [elw40]
      refine V.eSt (st' := [.int (nI lw40), .int (nI lw39), .int (nI lw38), .int (nI lw2), .int (nI lw1), .ref q]) rfl ?_
      refine r_iload_n C 4 dL_act_404 rfl rfl ?_
      refine r_iconst C (v := nI 3) dL_act_405 (by decide) ?_
      refine r_ishr C dL_act_406 ?_
      refine r_sipush C (v := nI 900) dL_act_407 (by decide) ?_
      refine r_callS C hgX ml_L_79 st_L_low (c_L_low l hfl G M (y >>> ((nI 3) &&& 31)) 900 (by decide) (by decide)) rfl (Nat.le_of_ble_eq_true rfl) ⟨Nat.le_of_ble_eq_true rfl, Nat.le_of_ble_eq_true rfl⟩ ⟨Nat.le_of_ble_eq_true rfl, Nat.le_of_ble_eq_true rfl⟩ dL_act_410 rfl ?_
      rintro _ _ ⟨rfl, rfl⟩
      obtain ⟨lw41, hlw41, elw41⟩ : ∃ z_, z_ < 900 ∧ lwN (y >>> ((nI 3) &&& 31)) 900 = z_ := ⟨_, lwN_lt (by decide), rfl⟩
      rw [elw41]
      refine V.eSt (st' := [.int (nI lw41), .int (nI lw40), .int (nI lw39), .int (nI lw38), .int (nI lw2), .int (nI lw1), .ref q]) rfl ?_
      refine r_callH C hgX hl_garnishes (c_L_garnishes l hfl G M τ hw q F hO had (nI lw1) (nI lw2) (nI lw38) (nI lw39) (nI lw40) (nI lw41)) rfl (Nat.le_of_ble_eq_true rfl) ⟨Nat.le_of_ble_eq_true rfl, Nat.le_of_ble_eq_true rfl⟩ ⟨Nat.le_of_ble_eq_true rfl, Nat.le_of_ble_eq_true rfl⟩ dL_act_413 rfl ?_
      intro v42 Mq42 hp42
      obtain ⟨told, Ux, hv42, hwr, hO42, hk42⟩ := WPo.i (ts := [(-2), (-3), (-4)]) hp42
      subst hv42
      have hwV : WF Ux := hwr.wf hw (fun h_ => (lk_garnish hw hk hn9 h_).1)
      refine V.eSt (st' := [.int told]) rfl ?_
      refine r_istore C (lo' := [(6, .int told), (5, .int (nI lw2)), (4, .int (nI lw1)), (0, .ref q), (1, .ref na), (2, .int y), (3, .int (nI kd))]) dL_act_416 (by decide) rfl ?_
      refine r_aload_n C 4 dL_act_418 rfl rfl ?_
      refine r_iconst C (v := nI 2) dL_act_419 (by decide) ?_
      refine r_dup2 C dL_act_420 rfl rfl ?_
      refine r_ialoadN C ((((KF.rf (F := F) (M := M)).tr hk42) na hna).1.trans hn20) ((((KF.rf (F := F) (M := M)).tr hk42) na hna).2.1.trans hn3) (by omega) (by omega) dL_act_421 ?_
      refine V.ei (y := nI n2) ((congrFun (((KF.rf (F := F) (M := M)).tr hk42) na hna).2.2.1 2).trans hn.2.2) ?_
      refine r_iload C 0 dL_act_422 rfl ?_
      refine r_if_ge C (t := 431) dL_act_424 (by decide) (fun c424 => ?_) (fun c424 => ?_)
      · skip
        refine r_iconst C (v := nI 1) dL_act_431 (by decide) ?_
        refine r_iaddN C dL_act_432 ?_
        refine r_iastoreN C ((((KF.rf (F := F) (M := M)).tr hk42) na hna).1.trans hn20) ((((KF.rf (F := F) (M := M)).tr hk42) na hna).2.1.trans hn3) (by decide) (by decide) dL_act_433 ?_
        refine r_iload C 0 dL_act_434 rfl ?_
        exact r_iret C hr (⟨told, Ux, n0, n1, n2 + 1, rfl, Or.inr (Or.inr (Or.inr (Or.inr (Or.inr (Or.inr (Or.inr (Or.inl (⟨lw1, lw2, lw38, lw39, lw40, lw41, hlw1, hlw2, hlw38, hlw39, hlw40, hlw41, c364, hwr, rfl, rfl, by rw [if_neg (Int32.not_lt.mpr c424)]⟩)))))))), hwV, (hO42.wI hwV hna), (fun a_ ha_ hx_ => KF.ox ((KF.rf (F := F) (M := M)).tr hk42) ha_ hx_), (((KF.rf (F := F) (M := M)).tr hk42) na hna).1.trans hn20, (((KF.rf (F := F) (M := M)).tr hk42) na hna).2.1.trans hn3, AN.w2 (AN.kf hn ((KF.rf (F := F) (M := M)).tr hk42) hna) (rfl)⟩) (by first | exact Nat.zero_le _ | decide) (by first | exact Nat.zero_le _ | decide) dL_act_436
      · skip
        refine r_iconst C (v := nI 0) dL_act_427 (by decide) ?_
        refine r_goto C (t := 432) dL_act_428 (by decide) ?_
        refine r_iaddN C dL_act_432 ?_
        refine r_iastoreN C ((((KF.rf (F := F) (M := M)).tr hk42) na hna).1.trans hn20) ((((KF.rf (F := F) (M := M)).tr hk42) na hna).2.1.trans hn3) (by decide) (by decide) dL_act_433 ?_
        refine r_iload C 0 dL_act_434 rfl ?_
        exact r_iret C hr (⟨told, Ux, n0, n1, n2 + 0, rfl, Or.inr (Or.inr (Or.inr (Or.inr (Or.inr (Or.inr (Or.inr (Or.inl (⟨lw1, lw2, lw38, lw39, lw40, lw41, hlw1, hlw2, hlw38, hlw39, hlw40, hlw41, c364, hwr, rfl, rfl, by rw [if_pos (Int32.not_le.mp c424)]⟩)))))))), hwV, (hO42.wI hwV hna), (fun a_ ha_ hx_ => KF.ox ((KF.rf (F := F) (M := M)).tr hk42) ha_ hx_), (((KF.rf (F := F) (M := M)).tr hk42) na hna).1.trans hn20, (((KF.rf (F := F) (M := M)).tr hk42) na hna).2.1.trans hn3, AN.w2 (AN.kf hn ((KF.rf (F := F) (M := M)).tr hk42) hna) (rfl)⟩) (by first | exact Nat.zero_le _ | decide) (by first | exact Nat.zero_le _ | decide) dL_act_436
    · skip
      have hwV := hw
      refine r_bipush C (v := (-9)) dL_act_367 (by decide) ?_
      refine r_goto C (t := 416) dL_act_369 (by decide) ?_
      refine r_istore C (lo' := [(6, .int (-9)), (5, .int (nI lw2)), (4, .int (nI lw1)), (0, .ref q), (1, .ref na), (2, .int y), (3, .int (nI kd))]) dL_act_416 (by decide) rfl ?_
      refine r_aload_n C 4 dL_act_418 rfl rfl ?_
      refine r_iconst C (v := nI 2) dL_act_419 (by decide) ?_
      refine r_dup2 C dL_act_420 rfl rfl ?_
      refine r_ialoadN C (((KF.rf (F := F) (M := M)) na hna).1.trans hn20) (((KF.rf (F := F) (M := M)) na hna).2.1.trans hn3) (by omega) (by omega) dL_act_421 ?_
      refine V.ei (y := nI n2) ((congrFun ((KF.rf (F := F) (M := M)) na hna).2.2.1 2).trans hn.2.2) ?_
      refine r_iload C 0 dL_act_422 rfl ?_
      refine r_if_ge C (t := 431) dL_act_424 (by decide) (fun c424 => ?_) (fun c424 => ?_)
      · exact absurd c424 (by decide)
      · skip
        refine r_iconst C (v := nI 0) dL_act_427 (by decide) ?_
        refine r_goto C (t := 432) dL_act_428 (by decide) ?_
        refine r_iaddN C dL_act_432 ?_
        refine r_iastoreN C (((KF.rf (F := F) (M := M)) na hna).1.trans hn20) (((KF.rf (F := F) (M := M)) na hna).2.1.trans hn3) (by decide) (by decide) dL_act_433 ?_
        refine r_iload C 0 dL_act_434 rfl ?_
        exact r_iret C hr (⟨(-9), τ, n0, n1, n2, rfl, Or.inl (⟨rfl, rfl, rfl, rfl, rfl⟩), hw, (hO.wI hwV hna), (fun a_ ha_ hx_ => KF.ox (KF.rf (F := F) (M := M)) ha_ hx_), ((KF.rf (F := F) (M := M)) na hna).1.trans hn20, ((KF.rf (F := F) (M := M)) na hna).2.1.trans hn3, AN.w2 (AN.kf hn (KF.rf (F := F) (M := M)) hna) (rfl)⟩) (by first | exact Nat.zero_le _ | decide) (by first | exact Nat.zero_le _ | decide) dL_act_436
  · skip
    refine V.ei (y := nI 8) (congrArg nI sw18) ?_
    refine r_tabIn C (off := 419) (t := 437) dL_act_18 (by decide) (by decide) (by decide) (by decide) ?_
    refine r_aload_n C 2 dL_act_437 rfl rfl ?_
    refine r_iload_n C 4 dL_act_438 rfl rfl ?_
    refine r_bipush C (v := nI 7) dL_act_439 (by decide) ?_
    refine r_callS C hgX ml_L_79 st_L_low (c_L_low l hfl G M y 7 (by decide) (by decide)) rfl (Nat.le_of_ble_eq_true rfl) ⟨Nat.le_of_ble_eq_true rfl, Nat.le_of_ble_eq_true rfl⟩ ⟨Nat.le_of_ble_eq_true rfl, Nat.le_of_ble_eq_true rfl⟩ dL_act_441 rfl ?_
    rintro _ _ ⟨rfl, rfl⟩
    obtain ⟨lw43, hlw43, elw43⟩ : ∃ z_, z_ < 7 ∧ lwN y 7 = z_ := ⟨_, lwN_lt (by decide), rfl⟩
    rw [elw43]
    refine V.eSt (st' := [.int (nI lw43), .ref q]) rfl ?_
    refine r_iload_n C 4 dL_act_444 rfl rfl ?_
    refine r_iconst C (v := nI 4) dL_act_445 (by decide) ?_
    refine r_ishr C dL_act_446 ?_
    refine r_sipush C (v := nI 9000) dL_act_447 (by decide) ?_
    refine r_callS C hgX ml_L_79 st_L_low (c_L_low l hfl G M (y >>> ((nI 4) &&& 31)) 9000 (by decide) (by decide)) rfl (Nat.le_of_ble_eq_true rfl) ⟨Nat.le_of_ble_eq_true rfl, Nat.le_of_ble_eq_true rfl⟩ ⟨Nat.le_of_ble_eq_true rfl, Nat.le_of_ble_eq_true rfl⟩ dL_act_450 rfl ?_
    rintro _ _ ⟨rfl, rfl⟩
    obtain ⟨lw44, hlw44, elw44⟩ : ∃ z_, z_ < 9000 ∧ lwN (y >>> ((nI 4) &&& 31)) 9000 = z_ := ⟨_, lwN_lt (by decide), rfl⟩
    rw [elw44]
    refine V.eSt (st' := [.int (nI lw44), .int (nI lw43), .ref q]) rfl ?_
    refine r_callH C hgX hl_advances (c_L_advances l hfl G M τ hw q F hO had (nI lw43) (nI lw44)) rfl (Nat.le_of_ble_eq_true rfl) ⟨Nat.le_of_ble_eq_true rfl, Nat.le_of_ble_eq_true rfl⟩ ⟨Nat.le_of_ble_eq_true rfl, Nat.le_of_ble_eq_true rfl⟩ dL_act_453 rfl ?_
    intro v45 Mq45 hp45
    obtain ⟨told, Ux, hv45, hwr, hO45, hk45⟩ := WPo.l (ts := [(-2), (-3), (-4)]) hp45
    subst hv45
    refine V.eSt (st' := [.long told]) rfl ?_
    refine r_l2i C dL_act_456 ?_
    exact r_iret C hr (⟨told.toInt32, Ux, n0, n1, n2, rfl, Or.inr (Or.inr (Or.inr (Or.inr (Or.inr (Or.inr (Or.inr (Or.inr (Or.inl (⟨lw43, lw44, hlw43, hlw44, hwr, rfl, rfl, rfl⟩))))))))), (hwr.wf hw (fun h_ => (lk_advance hw hk hn9 h_).1)), hO45, (fun a_ ha_ _ => ((KF.rf (F := F) (M := M)).tr hk45) a_ ha_), (((KF.rf (F := F) (M := M)).tr hk45) na hna).1.trans hn20, (((KF.rf (F := F) (M := M)).tr hk45) na hna).2.1.trans hn3, AN.kf hn ((KF.rf (F := F) (M := M)).tr hk45) hna⟩) (by first | exact Nat.zero_le _ | decide) (by first | exact Nat.zero_le _ | decide) dL_act_457
  · skip
    refine V.ei (y := nI 9) (congrArg nI sw18) ?_
    refine r_tabIn C (off := 440) (t := 458) dL_act_18 (by decide) (by decide) (by decide) (by decide) ?_
    refine r_aload_n C 2 dL_act_458 rfl rfl ?_
    refine r_iload_n C 4 dL_act_459 rfl rfl ?_
    refine r_aload_n C 2 dL_act_460 rfl rfl ?_
    refine rq_payments C hgX hfl hw had hO ml_L_76  (Nat.le_of_ble_eq_true rfl) ⟨Nat.le_of_ble_eq_true rfl, Nat.le_of_ble_eq_true rfl⟩ ⟨Nat.le_of_ble_eq_true rfl, Nat.le_of_ble_eq_true rfl⟩ dL_act_461 ?_
    intro Mq46 hO46 hk46
    refine r_iconst C (v := nI 1) dL_act_464 (by decide) ?_
    refine r_iaddN C dL_act_465 ?_
    refine r_callS C hgX ml_L_79 st_L_low (c_L_low l hfl G Mq46 y (un τ 51 51 + 1) (by omega) (by omega)) rfl (Nat.le_of_ble_eq_true rfl) ⟨Nat.le_of_ble_eq_true rfl, Nat.le_of_ble_eq_true rfl⟩ ⟨Nat.le_of_ble_eq_true rfl, Nat.le_of_ble_eq_true rfl⟩ dL_act_466 rfl ?_
    rintro _ _ ⟨rfl, rfl⟩
    obtain ⟨lw47, hlw47, elw47⟩ : ∃ z_, z_ < un τ 51 51 + 1 ∧ lwN y (un τ 51 51 + 1) = z_ := ⟨_, lwN_lt (by omega), rfl⟩
    rw [elw47]
    refine V.eSt (st' := [.int (nI lw47), .ref q]) rfl ?_
    refine r_callH C hgX hl_back (c_L_back l hfl G Mq46 τ hw q F hO46 had (nI lw47)) rfl (Nat.le_of_ble_eq_true rfl) ⟨Nat.le_of_ble_eq_true rfl, Nat.le_of_ble_eq_true rfl⟩ ⟨Nat.le_of_ble_eq_true rfl, Nat.le_of_ble_eq_true rfl⟩ dL_act_469 rfl ?_
    intro v48 Mq48 hp48
    obtain ⟨told, Ux, hv48, hwr, hO48, hk48⟩ := WPo.l (ts := [(-2), (-4)]) hp48
    subst hv48
    refine V.eSt (st' := [.long told]) rfl ?_
    refine r_l2i C dL_act_472 ?_
    exact r_iret C hr (⟨told.toInt32, Ux, n0, n1, n2, rfl, Or.inr (Or.inr (Or.inr (Or.inr (Or.inr (Or.inr (Or.inr (Or.inr (Or.inr (Or.inl (⟨lw47, hlw47, hwr, rfl, rfl, rfl⟩)))))))))), (hwr.wf hw (fun h_ => (lk_comeBack hw hk hn9 h_).1)), hO48, (fun a_ ha_ _ => (((KF.rf (F := F) (M := M)).tr hk46).tr hk48) a_ ha_), ((((KF.rf (F := F) (M := M)).tr hk46).tr hk48) na hna).1.trans hn20, ((((KF.rf (F := F) (M := M)).tr hk46).tr hk48) na hna).2.1.trans hn3, AN.kf hn (((KF.rf (F := F) (M := M)).tr hk46).tr hk48) hna⟩) (by first | exact Nat.zero_le _ | decide) (by first | exact Nat.zero_le _ | decide) dL_act_473
  · skip
    refine V.ei (y := nI 10) (congrArg nI sw18) ?_
    refine r_tabIn C (off := 456) (t := 474) dL_act_18 (by decide) (by decide) (by decide) (by decide) ?_
    refine r_aload_n C 2 dL_act_474 rfl rfl ?_
    refine rq_open C hgX hfl hw had hO ml_L_72  (Nat.le_of_ble_eq_true rfl) ⟨Nat.le_of_ble_eq_true rfl, Nat.le_of_ble_eq_true rfl⟩ ⟨Nat.le_of_ble_eq_true rfl, Nat.le_of_ble_eq_true rfl⟩ dL_act_475 ?_
    intro Mq49 hO49 hk49
    refine r_bipush C (v := nI 24) dL_act_478 (by decide) ?_
    refine r_icmp_geN C (t := 490) (by omega) (by omega) dL_act_480 (by decide) (fun c480 => ?_) (fun c480 => ?_)
    · skip
      refine r_bipush C (v := (-9)) dL_act_490 (by decide) ?_
      exact r_iret C hr (⟨(-9), τ, n0, n1, n2, rfl, Or.inl (⟨rfl, rfl, rfl, rfl, rfl⟩), hw, hO49, (fun a_ ha_ _ => ((KF.rf (F := F) (M := M)).tr hk49) a_ ha_), (((KF.rf (F := F) (M := M)).tr hk49) na hna).1.trans hn20, (((KF.rf (F := F) (M := M)).tr hk49) na hna).2.1.trans hn3, AN.kf hn ((KF.rf (F := F) (M := M)).tr hk49) hna⟩) (by first | exact Nat.zero_le _ | decide) (by first | exact Nat.zero_le _ | decide) dL_act_492
    · skip
      refine r_aload_n C 2 dL_act_483 rfl rfl ?_
      refine r_q C hgX hO49 ml_L_138 im_X11_close se_X11_close (fun α_ hα => c_X11_close l hfl G Mq49 τ hw α_ hα.1 hα.2.1 hα.2.2 had hk.2.1) (k_1 (decide_eq_true (by omega))) rfl (Nat.le_of_ble_eq_true rfl) ⟨Nat.le_of_ble_eq_true rfl, Nat.le_of_ble_eq_true rfl⟩ ⟨Nat.le_of_ble_eq_true rfl, Nat.le_of_ble_eq_true rfl⟩ dL_act_484 rfl ?_
      intro Mq50 hO50 hk50
      refine V.eSt (st' := [.int (nI (un (clS τ 6) 51 51 - un τ 51 51))]) rfl ?_
      refine r_goto C (t := 492) dL_act_487 (by decide) ?_
      exact r_iret C hr (⟨(nI (un (clS τ 6) 51 51 - un τ 51 51)), _, n0, n1, n2, rfl, Or.inr (Or.inr (Or.inr (Or.inr (Or.inr (Or.inr (Or.inr (Or.inr (Or.inr (Or.inr (Or.inl (⟨by omega, rfl, rfl, rfl, rfl, rfl⟩))))))))))), (lk_close hw hk hn9 (k_1 (decide_eq_true (by omega)))).1, hO50, (fun a_ ha_ _ => (((KF.rf (F := F) (M := M)).tr hk49).tr hk50) a_ ha_), ((((KF.rf (F := F) (M := M)).tr hk49).tr hk50) na hna).1.trans hn20, ((((KF.rf (F := F) (M := M)).tr hk49).tr hk50) na hna).2.1.trans hn3, AN.kf hn (((KF.rf (F := F) (M := M)).tr hk49).tr hk50) hna⟩) (by first | exact Nat.zero_le _ | decide) (by first | exact Nat.zero_le _ | decide) dL_act_492
  · skip
    refine V.ei (y := nI 11) (congrArg nI sw18) ?_
    refine r_tabIn C (off := 475) (t := 493) dL_act_18 (by decide) (by decide) (by decide) (by decide) ?_
    refine r_iload C 0 dL_act_493 rfl ?_
    refine r_bipush C (v := nI 24) dL_act_495 (by decide) ?_
    refine r_icmp_geN C (t := 534) (by omega) (by omega) dL_act_497 (by decide) (fun c497 => ?_) (fun c497 => ?_)
    · skip
      refine r_bipush C (v := (-9)) dL_act_534 (by decide) ?_
      exact r_iret C hr (⟨(-9), τ, n0, n1, n2, rfl, Or.inl (⟨rfl, rfl, rfl, rfl, rfl⟩), hw, hO, (fun a_ ha_ _ => (KF.rf (F := F) (M := M)) a_ ha_), ((KF.rf (F := F) (M := M)) na hna).1.trans hn20, ((KF.rf (F := F) (M := M)) na hna).2.1.trans hn3, AN.kf hn (KF.rf (F := F) (M := M)) hna⟩) (by first | exact Nat.zero_le _ | decide) (by first | exact Nat.zero_le _ | decide) dL_act_536
    · skip
      refine r_aload_n C 2 dL_act_500 rfl rfl ?_
      refine r_iload C 1 dL_act_501 rfl ?_
      refine r_iload C 0 dL_act_503 rfl ?_
      refine r_iload_n C 4 dL_act_505 rfl rfl ?_
      refine r_bipush C (v := nI 6) dL_act_506 (by decide) ?_
      refine r_ishr C dL_act_508 ?_
      refine r_iconst C (v := nI 3) dL_act_509 (by decide) ?_
      refine r_callS C hgX ml_L_79 st_L_low (c_L_low l hfl G M (y >>> ((nI 6) &&& 31)) 3 (by decide) (by decide)) rfl (Nat.le_of_ble_eq_true rfl) ⟨Nat.le_of_ble_eq_true rfl, Nat.le_of_ble_eq_true rfl⟩ ⟨Nat.le_of_ble_eq_true rfl, Nat.le_of_ble_eq_true rfl⟩ dL_act_510 rfl ?_
      rintro _ _ ⟨rfl, rfl⟩
      obtain ⟨lw51, hlw51, elw51⟩ : ∃ z_, z_ < 3 ∧ lwN (y >>> ((nI 6) &&& 31)) 3 = z_ := ⟨_, lwN_lt (by decide), rfl⟩
      rw [elw51]
      refine V.eSt (st' := [.int (nI lw51), .int (nI lw2), .int (nI lw1), .ref q]) rfl ?_
      refine r_iload_n C 4 dL_act_513 rfl rfl ?_
      refine r_bipush C (v := nI 7) dL_act_514 (by decide) ?_
      refine r_ishr C dL_act_516 ?_
      refine r_ldc C (v := 90000) ki_L_125 dL_act_517 ?_
      refine V.ei (y := nI 90000) (by decide) ?_
      refine r_callS C hgX ml_L_79 st_L_low (c_L_low l hfl G M (y >>> ((nI 7) &&& 31)) 90000 (by decide) (by decide)) rfl (Nat.le_of_ble_eq_true rfl) ⟨Nat.le_of_ble_eq_true rfl, Nat.le_of_ble_eq_true rfl⟩ ⟨Nat.le_of_ble_eq_true rfl, Nat.le_of_ble_eq_true rfl⟩ dL_act_519 rfl ?_
      rintro _ _ ⟨rfl, rfl⟩
      obtain ⟨lw52, hlw52, elw52⟩ : ∃ z_, z_ < 90000 ∧ lwN (y >>> ((nI 7) &&& 31)) 90000 = z_ := ⟨_, lwN_lt (by decide), rfl⟩
      rw [elw52]
      refine V.eSt (st' := [.int (nI lw52), .int (nI lw51), .int (nI lw2), .int (nI lw1), .ref q]) rfl ?_
      refine r_sipush C (v := nI 20000) dL_act_522 (by decide) ?_
      refine r_isub C dL_act_525 ?_
      refine r_q C hgX hO ml_L_141 im_X11_bonus se_X11_bonus (fun α_ hα => c_X11_bonus l hfl G M τ hw α_ hα.1 hα.2.1 hα.2.2 had (nI lw1) (nI lw2) (nI lw51) ((nI lw52) - (nI 20000))) (k_2 (an2 (an2 (rng_ok (by omega) (by omega)) (rng_ok (by omega) (by omega))) (rng_ok (by omega) (by omega))) (bon_in (by omega))) rfl (Nat.le_of_ble_eq_true rfl) ⟨Nat.le_of_ble_eq_true rfl, Nat.le_of_ble_eq_true rfl⟩ ⟨Nat.le_of_ble_eq_true rfl, Nat.le_of_ble_eq_true rfl⟩ dL_act_526 rfl ?_
      intro Mq53 hO53 hk53
      refine V.eSt (st' := [.int (τ.1 30 (72 * (nI lw1).toNatClampNeg + 3 * (nI lw2).toNatClampNeg + (nI lw51).toNatClampNeg))]) rfl ?_
      have hwU := (lk_bonus (x := nI lw1) (y := nI lw2) (z := nI lw51) (t := nI lw52 - nI 20000) hw hk hn9 (k_2 (an2 (an2 (rng_ok (by omega) (by omega)) (rng_ok (by omega) (by omega))) (rng_ok (by omega) (by omega))) (bon_in (by omega)))).1
      refine r_iconst C (v := nI 0) dL_act_529 (by decide) ?_
      refine r_imul C dL_act_530 ?_
      refine V.ei (y := 0) (Int32.mul_zero) ?_
      refine r_goto C (t := 536) dL_act_531 (by decide) ?_
      exact r_iret C hr (⟨0, _, n0, n1, n2, rfl, Or.inr (Or.inr (Or.inr (Or.inr (Or.inr (Or.inr (Or.inr (Or.inr (Or.inr (Or.inr (Or.inr (Or.inl (⟨lw1, lw2, lw51, lw52, hlw1, by omega, hlw51, hlw52, rfl, rfl, rfl, rfl, rfl⟩)))))))))))), hwU, hO53, (fun a_ ha_ _ => ((KF.rf (F := F) (M := M)).tr hk53) a_ ha_), (((KF.rf (F := F) (M := M)).tr hk53) na hna).1.trans hn20, (((KF.rf (F := F) (M := M)).tr hk53) na hna).2.1.trans hn3, AN.kf hn ((KF.rf (F := F) (M := M)).tr hk53) hna⟩) (by first | exact Nat.zero_le _ | decide) (by first | exact Nat.zero_le _ | decide) dL_act_536
  · skip
    refine V.ei (y := nI 12) (congrArg nI sw18) ?_
    refine r_tabIn C (off := 519) (t := 537) dL_act_18 (by decide) (by decide) (by decide) (by decide) ?_
    refine r_aload_n C 2 dL_act_537 rfl rfl ?_
    refine r_iload_n C 4 dL_act_538 rfl rfl ?_
    refine r_bipush C (v := nI 51) dL_act_539 (by decide) ?_
    refine r_callS C hgX ml_L_79 st_L_low (c_L_low l hfl G M y 51 (by decide) (by decide)) rfl (Nat.le_of_ble_eq_true rfl) ⟨Nat.le_of_ble_eq_true rfl, Nat.le_of_ble_eq_true rfl⟩ ⟨Nat.le_of_ble_eq_true rfl, Nat.le_of_ble_eq_true rfl⟩ dL_act_541 rfl ?_
    rintro _ _ ⟨rfl, rfl⟩
    obtain ⟨lw54, hlw54, elw54⟩ : ∃ z_, z_ < 51 ∧ lwN y 51 = z_ := ⟨_, lwN_lt (by decide), rfl⟩
    rw [elw54]
    refine V.eSt (st' := [.int (nI lw54), .ref q]) rfl ?_
    refine r_iload_n C 4 dL_act_544 rfl rfl ?_
    refine r_iconst C (v := nI 3) dL_act_545 (by decide) ?_
    refine r_ishr C dL_act_546 ?_
    refine r_sipush C (v := nI 501) dL_act_547 (by decide) ?_
    refine r_callS C hgX ml_L_79 st_L_low (c_L_low l hfl G M (y >>> ((nI 3) &&& 31)) 501 (by decide) (by decide)) rfl (Nat.le_of_ble_eq_true rfl) ⟨Nat.le_of_ble_eq_true rfl, Nat.le_of_ble_eq_true rfl⟩ ⟨Nat.le_of_ble_eq_true rfl, Nat.le_of_ble_eq_true rfl⟩ dL_act_550 rfl ?_
    rintro _ _ ⟨rfl, rfl⟩
    obtain ⟨lw55, hlw55, elw55⟩ : ∃ z_, z_ < 501 ∧ lwN (y >>> ((nI 3) &&& 31)) 501 = z_ := ⟨_, lwN_lt (by decide), rfl⟩
    rw [elw55]
    refine V.eSt (st' := [.int (nI lw55), .int (nI lw54), .ref q]) rfl ?_
    refine r_iconst C (v := nI 1) dL_act_553 (by decide) ?_
    refine r_iload_n C 4 dL_act_554 rfl rfl ?_
    refine r_iconst C (v := nI 5) dL_act_555 (by decide) ?_
    refine r_ishr C dL_act_556 ?_
    refine r_bipush C (v := nI 12) dL_act_557 (by decide) ?_
    refine r_callS C hgX ml_L_79 st_L_low (c_L_low l hfl G M (y >>> ((nI 5) &&& 31)) 12 (by decide) (by decide)) rfl (Nat.le_of_ble_eq_true rfl) ⟨Nat.le_of_ble_eq_true rfl, Nat.le_of_ble_eq_true rfl⟩ ⟨Nat.le_of_ble_eq_true rfl, Nat.le_of_ble_eq_true rfl⟩ dL_act_559 rfl ?_
    rintro _ _ ⟨rfl, rfl⟩
    obtain ⟨lw56, hlw56, elw56⟩ : ∃ z_, z_ < 12 ∧ lwN (y >>> ((nI 5) &&& 31)) 12 = z_ := ⟨_, lwN_lt (by decide), rfl⟩
    rw [elw56]
    refine V.eSt (st' := [.int (nI lw56), .int (nI 1), .int (nI lw55), .int (nI lw54), .ref q]) rfl ?_
    refine r_iaddN C dL_act_562 ?_
    refine r_q C hgX hO ml_L_144 im_X11_leaveRule se_X11_leaveRule (fun α_ hα => c_X11_leaveRule l hfl G M τ hw α_ hα.1 hα.2.1 hα.2.2 had (nI lw54) (nI lw55) (nI (1 + lw56))) (k_1 (an2 (an2 (inB_ok (by omega) (by omega) (by decide)) (inB_ok (by omega) (by omega) (by decide))) (inB_ok (by omega) (by omega) (by decide)))) rfl (Nat.le_of_ble_eq_true rfl) ⟨Nat.le_of_ble_eq_true rfl, Nat.le_of_ble_eq_true rfl⟩ ⟨Nat.le_of_ble_eq_true rfl, Nat.le_of_ble_eq_true rfl⟩ dL_act_563 rfl ?_
    intro Mq57 hO57 hk57
    refine V.eSt (st' := []) rfl ?_
    have hwU := (lk_leaveRule (x := nI lw54) (y := nI lw55) (z := nI (1 + lw56)) hw hk hn9 (k_1 (an2 (an2 (inB_ok (by omega) (by omega) (by decide)) (inB_ok (by omega) (by omega) (by decide))) (inB_ok (by omega) (by omega) (by decide))))).1
    refine r_iconst C (v := nI 0) dL_act_566 (by decide) ?_
    exact r_iret C hr (⟨0, _, n0, n1, n2, rfl, Or.inr (Or.inr (Or.inr (Or.inr (Or.inr (Or.inr (Or.inr (Or.inr (Or.inr (Or.inr (Or.inr (Or.inr (Or.inl (⟨lw54, lw55, lw56, hlw54, hlw55, hlw56, rfl, rfl, rfl, rfl, rfl⟩))))))))))))), hwU, hO57, (fun a_ ha_ _ => ((KF.rf (F := F) (M := M)).tr hk57) a_ ha_), (((KF.rf (F := F) (M := M)).tr hk57) na hna).1.trans hn20, (((KF.rf (F := F) (M := M)).tr hk57) na hna).2.1.trans hn3, AN.kf hn ((KF.rf (F := F) (M := M)).tr hk57) hna⟩) (by first | exact Nat.zero_le _ | decide) (by first | exact Nat.zero_le _ | decide) dL_act_567
  · skip
    refine V.ei (y := nI 13) (congrArg nI sw18) ?_
    refine r_tabOut C (t := 568) dL_act_18 (by decide) (by decide) ?_
    refine r_iload C 0 dL_act_568 rfl ?_
    refine r_bipush C (v := nI 24) dL_act_570 (by decide) ?_
    refine r_icmp_geN C (t := 634) (by omega) (by omega) dL_act_572 (by decide) (fun c572 => ?_) (fun c572 => ?_)
    · skip
      refine r_iconst C (v := nI 0) dL_act_634 (by decide) ?_
      exact r_iret C hr (⟨0, τ, n0, n1, n2, rfl, Or.inr (Or.inr (Or.inr (Or.inr (Or.inr (Or.inr (Or.inr (Or.inr (Or.inr (Or.inr (Or.inr (Or.inr (Or.inr (Or.inr (⟨rfl, rfl, rfl, rfl, rfl⟩)))))))))))))), hw, hO, (fun a_ ha_ _ => (KF.rf (F := F) (M := M)) a_ ha_), ((KF.rf (F := F) (M := M)) na hna).1.trans hn20, ((KF.rf (F := F) (M := M)) na hna).2.1.trans hn3, AN.kf hn (KF.rf (F := F) (M := M)) hna⟩) (by first | exact Nat.zero_le _ | decide) (by first | exact Nat.zero_le _ | decide) dL_act_635
    · skip
      refine r_aload_n C 2 dL_act_575 rfl rfl ?_
      refine r_iload C 1 dL_act_576 rfl ?_
      refine r_iload C 0 dL_act_578 rfl ?_
      refine r_iload_n C 4 dL_act_580 rfl rfl ?_
      refine r_bipush C (v := nI 6) dL_act_581 (by decide) ?_
      refine r_ishr C dL_act_583 ?_
      refine r_sipush C (v := nI 501) dL_act_584 (by decide) ?_
      refine r_callS C hgX ml_L_79 st_L_low (c_L_low l hfl G M (y >>> ((nI 6) &&& 31)) 501 (by decide) (by decide)) rfl (Nat.le_of_ble_eq_true rfl) ⟨Nat.le_of_ble_eq_true rfl, Nat.le_of_ble_eq_true rfl⟩ ⟨Nat.le_of_ble_eq_true rfl, Nat.le_of_ble_eq_true rfl⟩ dL_act_587 rfl ?_
      rintro _ _ ⟨rfl, rfl⟩
      obtain ⟨lw58, hlw58, elw58⟩ : ∃ z_, z_ < 501 ∧ lwN (y >>> ((nI 6) &&& 31)) 501 = z_ := ⟨_, lwN_lt (by decide), rfl⟩
      rw [elw58]
      refine V.eSt (st' := [.int (nI lw58), .int (nI lw2), .int (nI lw1), .ref q]) rfl ?_
      refine r_iload_n C 4 dL_act_590 rfl rfl ?_
      refine r_iconst C (v := nI 4) dL_act_591 (by decide) ?_
      refine r_ishr C dL_act_592 ?_
      refine r_ldc C (v := 900000) ki_L_120 dL_act_593 ?_
      refine V.ei (y := nI 900000) (by decide) ?_
      refine r_callS C hgX ml_L_79 st_L_low (c_L_low l hfl G M (y >>> ((nI 4) &&& 31)) 900000 (by decide) (by decide)) rfl (Nat.le_of_ble_eq_true rfl) ⟨Nat.le_of_ble_eq_true rfl, Nat.le_of_ble_eq_true rfl⟩ ⟨Nat.le_of_ble_eq_true rfl, Nat.le_of_ble_eq_true rfl⟩ dL_act_595 rfl ?_
      rintro _ _ ⟨rfl, rfl⟩
      obtain ⟨lw59, hlw59, elw59⟩ : ∃ z_, z_ < 900000 ∧ lwN (y >>> ((nI 4) &&& 31)) 900000 = z_ := ⟨_, lwN_lt (by decide), rfl⟩
      rw [elw59]
      refine V.eSt (st' := [.int (nI lw59), .int (nI lw58), .int (nI lw2), .int (nI lw1), .ref q]) rfl ?_
      refine r_q C hgX hO ml_L_148 im_X11_contribution se_X11_contribution (fun α_ hα => c_X11_contribution l hfl G M τ hw α_ hα.1 hα.2.1 hα.2.2 had (nI lw1) (nI lw2) (nI lw58) (nI lw59)) (k_2 (an2 (rng_ok (by omega) (by omega)) (rng_ok (by omega) (by omega))) (an2 (inB_ok (by omega) (by omega) (by decide)) (inB_ok (by omega) (by omega) (by decide)))) rfl (Nat.le_of_ble_eq_true rfl) ⟨Nat.le_of_ble_eq_true rfl, Nat.le_of_ble_eq_true rfl⟩ ⟨Nat.le_of_ble_eq_true rfl, Nat.le_of_ble_eq_true rfl⟩ dL_act_598 rfl ?_
      intro Mq60 hO60 hk60
      refine V.eSt (st' := []) rfl ?_
      obtain ⟨hwU1, hkU1⟩ := lk_contribution (x := nI lw1) (y := nI lw2) (z := nI lw58) (t := nI lw59) hw hk hn9 (k_2 (an2 (rng_ok (by omega) (by omega)) (rng_ok (by omega) (by omega))) (an2 (inB_ok (by omega) (by omega) (by decide)) (inB_ok (by omega) (by omega) (by decide))))
      have hadU1 := hkU1.ad (show n9 + 1 ≤ 600 by omega)
      refine r_aload_n C 2 dL_act_601 rfl rfl ?_
      refine r_iload C 1 dL_act_602 rfl ?_
      refine r_iload C 0 dL_act_604 rfl ?_
      refine r_iload_n C 4 dL_act_606 rfl rfl ?_
      refine r_iconst C (v := nI 5) dL_act_607 (by decide) ?_
      refine r_ishr C dL_act_608 ?_
      refine r_sipush C (v := nI 201) dL_act_609 (by decide) ?_
      refine r_callS C hgX ml_L_79 st_L_low (c_L_low l hfl G Mq60 (y >>> ((nI 5) &&& 31)) 201 (by decide) (by decide)) rfl (Nat.le_of_ble_eq_true rfl) ⟨Nat.le_of_ble_eq_true rfl, Nat.le_of_ble_eq_true rfl⟩ ⟨Nat.le_of_ble_eq_true rfl, Nat.le_of_ble_eq_true rfl⟩ dL_act_612 rfl ?_
      rintro _ _ ⟨rfl, rfl⟩
      obtain ⟨lw61, hlw61, elw61⟩ : ∃ z_, z_ < 201 ∧ lwN (y >>> ((nI 5) &&& 31)) 201 = z_ := ⟨_, lwN_lt (by decide), rfl⟩
      rw [elw61]
      refine V.eSt (st' := [.int (nI lw61), .int (nI lw2), .int (nI lw1), .ref q]) rfl ?_
      refine r_q C hgX hO60 ml_L_152 im_X11_pension se_X11_pension (fun α_ hα => c_X11_pension l hfl G Mq60 (sI (sI τ 31 (24 * (nI lw1).toNatClampNeg + (nI lw2).toNatClampNeg) (nI lw58)) 32 (24 * (nI lw1).toNatClampNeg + (nI lw2).toNatClampNeg) (nI lw59)) hwU1 α_ hα.1 hα.2.1 hα.2.2 hadU1 (nI lw1) (nI lw2) (nI lw61)) (k_2 (an2 (rng_ok (by omega) (by omega)) (rng_ok (by omega) (by omega))) (inB_ok (by omega) (by omega) (by decide))) rfl (Nat.le_of_ble_eq_true rfl) ⟨Nat.le_of_ble_eq_true rfl, Nat.le_of_ble_eq_true rfl⟩ ⟨Nat.le_of_ble_eq_true rfl, Nat.le_of_ble_eq_true rfl⟩ dL_act_615 rfl ?_
      intro Mq62 hO62 hk62
      refine V.eSt (st' := []) rfl ?_
      obtain ⟨hwU2, hkU2⟩ := lk_pension (x := nI lw1) (y := nI lw2) (z := nI lw61) hwU1 hkU1 (show n9 + 1 ≤ 600 by omega) (k_2 (an2 (rng_ok (by omega) (by omega)) (rng_ok (by omega) (by omega))) (inB_ok (by omega) (by omega) (by decide)))
      have hadU2 := hkU2.ad (show n9 + 1 + 1 ≤ 600 by omega)
      refine r_aload_n C 2 dL_act_618 rfl rfl ?_
      refine r_iload C 1 dL_act_619 rfl ?_
      refine r_iload C 0 dL_act_621 rfl ?_
      refine r_iload_n C 4 dL_act_623 rfl rfl ?_
      refine r_bipush C (v := nI 8) dL_act_624 (by decide) ?_
      refine r_ishr C dL_act_626 ?_
      refine r_iconst C (v := nI 2) dL_act_627 (by decide) ?_
      refine r_callS C hgX ml_L_79 st_L_low (c_L_low l hfl G Mq62 (y >>> ((nI 8) &&& 31)) 2 (by decide) (by decide)) rfl (Nat.le_of_ble_eq_true rfl) ⟨Nat.le_of_ble_eq_true rfl, Nat.le_of_ble_eq_true rfl⟩ ⟨Nat.le_of_ble_eq_true rfl, Nat.le_of_ble_eq_true rfl⟩ dL_act_628 rfl ?_
      rintro _ _ ⟨rfl, rfl⟩
      obtain ⟨lw63, hlw63, elw63⟩ : ∃ z_, z_ < 2 ∧ lwN (y >>> ((nI 8) &&& 31)) 2 = z_ := ⟨_, lwN_lt (by decide), rfl⟩
      rw [elw63]
      refine V.eSt (st' := [.int (nI lw63), .int (nI lw2), .int (nI lw1), .ref q]) rfl ?_
      refine r_q C hgX hO62 ml_L_155 im_X11_state se_X11_state (fun α_ hα => c_X11_state l hfl G Mq62 (sI (sI (sI τ 31 (24 * (nI lw1).toNatClampNeg + (nI lw2).toNatClampNeg) (nI lw58)) 32 (24 * (nI lw1).toNatClampNeg + (nI lw2).toNatClampNeg) (nI lw59)) 37 (24 * (nI lw1).toNatClampNeg + (nI lw2).toNatClampNeg) (nI lw61)) hwU2 α_ hα.1 hα.2.1 hα.2.2 hadU2 (nI lw1) (nI lw2) (nI lw63)) (k_2 (an2 (rng_ok (by omega) (by omega)) (rng_ok (by omega) (by omega))) (inB_ok (by omega) (by omega) (by decide))) rfl (Nat.le_of_ble_eq_true rfl) ⟨Nat.le_of_ble_eq_true rfl, Nat.le_of_ble_eq_true rfl⟩ ⟨Nat.le_of_ble_eq_true rfl, Nat.le_of_ble_eq_true rfl⟩ dL_act_631 rfl ?_
      intro Mq64 hO64 hk64
      refine V.eSt (st' := []) rfl ?_
      have hwU3 := (lk_state (x := nI lw1) (y := nI lw2) (z := nI lw63) hwU2 hkU2 (show n9 + 1 + 1 ≤ 600 by omega) (k_2 (an2 (rng_ok (by omega) (by omega)) (rng_ok (by omega) (by omega))) (inB_ok (by omega) (by omega) (by decide)))).1
      refine r_iconst C (v := nI 0) dL_act_634 (by decide) ?_
      exact r_iret C hr (⟨0, _, n0, n1, n2, rfl, Or.inr (Or.inr (Or.inr (Or.inr (Or.inr (Or.inr (Or.inr (Or.inr (Or.inr (Or.inr (Or.inr (Or.inr (Or.inr (Or.inl (⟨lw1, lw2, lw58, lw59, lw61, lw63, hlw1, hlw2, hlw58, hlw59, hlw61, hlw63, rfl, (if_pos (by omega)).symm, rfl, rfl, rfl⟩)))))))))))))), hwU3, hO64, (fun a_ ha_ _ => ((((KF.rf (F := F) (M := M)).tr hk60).tr hk62).tr hk64) a_ ha_), (((((KF.rf (F := F) (M := M)).tr hk60).tr hk62).tr hk64) na hna).1.trans hn20, (((((KF.rf (F := F) (M := M)).tr hk60).tr hk62).tr hk64) na hna).2.1.trans hn3, AN.kf hn ((((KF.rf (F := F) (M := M)).tr hk60).tr hk62).tr hk64) hna⟩) (by first | exact Nat.zero_le _ | decide) (by first | exact Nat.zero_le _ | decide) dL_act_635
