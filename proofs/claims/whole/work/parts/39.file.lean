/-! THE REFERENCE: filings, close -/
/-- the sum over people, of a month and place -/
def flS (D : Nat → Nat → Nat → Int64) (k : Nat) : Int64 := sumL (fun i => D i (k % 24) (k / 24)) 6
def flU (b : Mu) (D P : Nat → Nat → Nat → Int64) (n : Nat) : Mu :=
  (fun f k => if f = 54 ∧ k < n ∧ k % 24 ≤ un b 46 46 then b.1 54 k + (if k % 24 < un b 46 46 ∧ (flS D k ≠ b.2 52 k ∨ flS P k ≠ b.2 53 k) then nI 1 else nI 0) else b.1 f k,
   fun f k => if f = 52 ∧ k < n ∧ k % 24 ≤ un b 46 46 then flS D k else if f = 53 ∧ k < n ∧ k % 24 ≤ un b 46 46 then flS P k else b.2 f k)
theorem flU_0 (b : Mu) (D P : Nat → Nat → Nat → Int64) : flU b D P 0 = b := by
  unfold flU
  refine Prod.ext (funext fun f => funext fun k => ?_) (funext fun f => funext fun k => ?_)
  · exact if_neg (fun q => by omega)
  · show (if _ then _ else if _ then _ else _) = _
    rw [if_neg (fun q => by omega), if_neg (fun q => by omega)]
theorem flU_skip (b : Mu) (D P : Nat → Nat → Nat → Int64) {n : Nat} (h : ¬ n % 24 ≤ un b 46 46) : flU b D P (n + 1) = flU b D P n := by
  unfold flU
  have hc : ∀ k, (k < n + 1 ∧ k % 24 ≤ un b 46 46) ↔ (k < n ∧ k % 24 ≤ un b 46 46) := fun k => ⟨fun q => ⟨by have : k ≠ n := fun z => h (z ▸ q.2); omega, q.2⟩, fun q => ⟨by omega, q.2⟩⟩
  refine Prod.ext (funext fun f => funext fun k => ?_) (funext fun f => funext fun k => ?_)
  · exact if_cg ⟨fun q => ⟨q.1, (hc k).mp q.2⟩, fun q => ⟨q.1, (hc k).mpr q.2⟩⟩
  · show (if f = 52 ∧ k < n + 1 ∧ k % 24 ≤ un b 46 46 then flS D k else if f = 53 ∧ k < n + 1 ∧ k % 24 ≤ un b 46 46 then flS P k else b.2 f k) = (if f = 52 ∧ k < n ∧ k % 24 ≤ un b 46 46 then flS D k else if f = 53 ∧ k < n ∧ k % 24 ≤ un b 46 46 then flS P k else b.2 f k)
    rw [if_cg (b := f = 53 ∧ k < n + 1 ∧ k % 24 ≤ un b 46 46) (c := f = 53 ∧ k < n ∧ k % 24 ≤ un b 46 46) ⟨fun q => ⟨q.1, (hc k).mp q.2⟩, fun q => ⟨q.1, (hc k).mpr q.2⟩⟩]
    exact if_cg ⟨fun q => ⟨q.1, (hc k).mp q.2⟩, fun q => ⟨q.1, (hc k).mpr q.2⟩⟩
theorem flU_do (b : Mu) (D P : Nat → Nat → Nat → Int64) {n : Nat} (h : n % 24 ≤ un b 46 46) :
    sL (sL (sI (flU b D P n) 54 n (b.1 54 n + (if n % 24 < un b 46 46 ∧ (flS D n ≠ b.2 52 n ∨ flS P n ≠ b.2 53 n) then nI 1 else nI 0))) 52 n (flS D n)) 53 n (flS P n) = flU b D P (n + 1) := by
  unfold sL sI flU
  refine Prod.ext (funext fun f => funext fun k => ?_) (funext fun f => funext fun k => ?_)
  · show (if f = 54 then (if k = n then _ else (if f = 54 ∧ k < n ∧ k % 24 ≤ un b 46 46 then _ else _)) else (if f = 54 ∧ k < n ∧ k % 24 ≤ un b 46 46 then _ else _)) = (if f = 54 ∧ k < n + 1 ∧ k % 24 ≤ un b 46 46 then _ else _)
    by_cases e : f = 54
    · rw [if_pos e]
      by_cases z : k = n
      · subst z; rw [if_pos rfl]; exact (if_pos ⟨e, by omega, h⟩).symm
      · rw [if_neg z]; exact if_cg ⟨fun q => ⟨q.1, by omega, q.2.2⟩, fun q => ⟨q.1, by omega, q.2.2⟩⟩
    · rw [if_neg e, if_neg (fun q => e q.1), if_neg (fun q => e q.1)]
  · show (if f = 53 then (if k = n then _ else (if f = 52 then (if k = n then _ else (if f = 52 ∧ k < n ∧ k % 24 ≤ un b 46 46 then _ else if f = 53 ∧ k < n ∧ k % 24 ≤ un b 46 46 then _ else _)) else (if f = 52 ∧ k < n ∧ k % 24 ≤ un b 46 46 then _ else if f = 53 ∧ k < n ∧ k % 24 ≤ un b 46 46 then _ else _))) else (if f = 52 then (if k = n then _ else (if f = 52 ∧ k < n ∧ k % 24 ≤ un b 46 46 then _ else if f = 53 ∧ k < n ∧ k % 24 ≤ un b 46 46 then _ else _)) else (if f = 52 ∧ k < n ∧ k % 24 ≤ un b 46 46 then _ else if f = 53 ∧ k < n ∧ k % 24 ≤ un b 46 46 then _ else _))) = (if f = 52 ∧ k < n + 1 ∧ k % 24 ≤ un b 46 46 then _ else if f = 53 ∧ k < n + 1 ∧ k % 24 ≤ un b 46 46 then _ else _)
    by_cases e : f = 53
    · rw [if_pos e, if_neg (show ¬ (f = 52 ∧ k < n + 1 ∧ k % 24 ≤ un b 46 46) by omega)]
      by_cases z : k = n
      · subst z; rw [if_pos rfl, if_pos ⟨e, by omega, h⟩]
      · rw [if_neg z, if_neg (show ¬ f = 52 by omega), if_neg (show ¬ (f = 52 ∧ k < n ∧ k % 24 ≤ un b 46 46) by omega)]
        exact if_cg ⟨fun q => ⟨q.1, by omega, q.2.2⟩, fun q => ⟨q.1, by omega, q.2.2⟩⟩
    · rw [if_neg e]
      by_cases e2 : f = 52
      · rw [if_pos e2]
        by_cases z : k = n
        · subst z; rw [if_pos rfl, if_pos ⟨e2, by omega, h⟩]
        · rw [if_neg z]
          rw [if_neg (show ¬ (f = 53 ∧ k < n ∧ k % 24 ≤ un b 46 46) by omega), if_neg (show ¬ (f = 53 ∧ k < n + 1 ∧ k % 24 ≤ un b 46 46) by omega)]
          exact if_cg ⟨fun q => ⟨q.1, by omega, q.2.2⟩, fun q => ⟨q.1, by omega, q.2.2⟩⟩
      · rw [if_neg e2, if_neg (show ¬ (f = 52 ∧ k < n ∧ k % 24 ≤ un b 46 46) by omega), if_neg (show ¬ (f = 52 ∧ k < n + 1 ∧ k % 24 ≤ un b 46 46) by omega), if_neg (show ¬ (f = 53 ∧ k < n ∧ k % 24 ≤ un b 46 46) by omega), if_neg (show ¬ (f = 53 ∧ k < n + 1 ∧ k % 24 ≤ un b 46 46) by omega)]
theorem flU_L (b : Mu) (D P : Nat → Nat → Nat → Int64) (n f k : Nat) (h : f < 52 ∨ n ≤ k) : (flU b D P n).2 f k = b.2 f k := by
  show (if f = 52 ∧ k < n ∧ k % 24 ≤ un b 46 46 then flS D k else if f = 53 ∧ k < n ∧ k % 24 ≤ un b 46 46 then flS P k else b.2 f k) = b.2 f k
  rw [if_neg (fun q => by omega), if_neg (fun q => by omega)]
theorem flU_52 (b : Mu) (D P : Nat → Nat → Nat → Int64) (n : Nat) : (flU b D P n).2 52 n = b.2 52 n := flU_L b D P n 52 n (.inr (Nat.le_refl _))
theorem flU_53 (b : Mu) (D P : Nat → Nat → Nat → Int64) (n : Nat) : (flU b D P n).2 53 n = b.2 53 n := flU_L b D P n 53 n (.inr (Nat.le_refl _))
theorem flU_54 (b : Mu) (D P : Nat → Nat → Nat → Int64) (n : Nat) : (flU b D P n).1 54 n = b.1 54 n := if_neg (fun q => by omega)
def dueP (τ b : Mu) (q : Nat) : Int64 := pdL b q (sumL (pyL τ q) (un τ 46 46 + 1)) (un b 51 51)
/-- the payments behind q people -/
def clS (τ : Mu) : Nat → Mu
  | 0 => τ
  | q + 1 => if lN 0 < dueP τ (clS τ q) q then sI (sI (sL (sI (sI (clS τ q) 47 (un (clS τ q) 51 51) (nI q)) 48 (un (clS τ q) 51 51) (nI (un τ 46 46))) 49 (un (clS τ q) 51 51) (dueP τ (clS τ q) q)) 50 (un (clS τ q) 51 51) (nI 0)) 51 51 (nI (un (clS τ q) 51 51 + 1)) else clS τ q
theorem clS_lo (τ : Mu) : ∀ q k, k ≤ 46 → ∀ x, (clS τ q).1 k x = τ.1 k x ∧ (clS τ q).2 k x = τ.2 k x
  | 0, _, _, _ => ⟨rfl, rfl⟩
  | q + 1, k, hk, x => by
    have ih := clS_lo τ q k hk x
    unfold clS
    split
    · refine ⟨?_, ?_⟩
      · rw [← ih.1]
        exact (up2_a _ _ (by omega)).trans ((up2_a _ _ (by omega)).trans ((up2_a _ _ (by omega)).trans (up2_a _ _ (by omega))))
      · rw [← ih.2]; exact up2_a _ _ (by omega)
    · exact ih
theorem clS_ok {τ : Mu} (hw : WF τ) (hnp0 : un τ 51 51 ≤ 6 * un τ 46 46) (ho : un τ 46 46 < 24) : ∀ q, q ≤ 6 → okN (clS τ q) 51 51 (6 * un τ 46 46 + q) ∧ (∀ k, k < un (clS τ q) 51 51 → okN (clS τ q) 47 k 5) ∧ (∀ k, k < un (clS τ q) 51 51 → okN (clS τ q) 48 k 23) ∧ (∀ k, k < un (clS τ q) 51 51 → okN (clS τ q) 50 k 1) ∧ un τ 51 51 ≤ un (clS τ q) 51 51
  | 0, _ => ⟨⟨hw.np.1, hnp0⟩, hw.pw, hw.pm, hw.pb, Nat.le_refl _⟩
  | q + 1, hq => by
    obtain ⟨h1, h2, h3, h4, h5⟩ := clS_ok hw hnp0 ho q (by omega)
    have h1b := h1.2
    unfold clS
    split
    · have e51 : un (sI (sI (sL (sI (sI (clS τ q) 47 (un (clS τ q) 51 51) (nI q)) 48 (un (clS τ q) 51 51) (nI (un τ 46 46))) 49 (un (clS τ q) 51 51) (dueP τ (clS τ q) q)) 50 (un (clS τ q) 51 51) (nI 0)) 51 51 (nI (un (clS τ q) 51 51 + 1))) 51 51 = un (clS τ q) 51 51 + 1 := nI_clamp (by omega)
      rw [e51]
      refine ⟨okN_of rfl (by omega) (by omega), fun k hk => ?_, fun k hk => ?_, fun k hk => ?_, by omega⟩
      · exact okN_app (τ := clS τ q) (k := 47) (n := un (clS τ q) 51 51) (v := q) (by omega) (by decide) (h2 k) hk
      · exact okN_app (τ := clS τ q) (k := 48) (n := un (clS τ q) 51 51) (v := un τ 46 46) (by omega) (by decide) (h3 k) hk
      · exact okN_app (τ := clS τ q) (k := 50) (n := un (clS τ q) 51 51) (v := 0) (by omega) (by decide) (h4 k) hk
    · exact ⟨⟨h1.1, by omega⟩, h2, h3, h4, h5⟩
theorem clS_b {τ : Mu} (hw : WF τ) (hnp0 : un τ 51 51 ≤ 6 * un τ 46 46) (ho : un τ 46 46 < 24) {q : Nat} (hq : q ≤ 6) : WFb (clS τ q) := by
  obtain ⟨h1, h2, h3, h4, h5⟩ := clS_ok hw hnp0 ho q hq
  exact ⟨okN_cg (clS_lo τ q 46 (by omega) 46).1 hw.op, ⟨h1.1, by have := h1.2; omega⟩, h2, h3, h4⟩
def tx3 (τ : Mu) (i m p : Nat) : Int64 := taL τ i m p
def co3 (τ : Mu) (i m p : Nat) : Int64 := coL τ i m p
/-- what close tells -/
def clU (τ : Mu) : Mu := sI (flU (clS τ 6) (tx3 τ) (co3 τ) 72) 46 46 (nI (un τ 46 46 + 1))
theorem clU_lo (τ : Mu) (k : Nat) (hk : k < 46) (x : Nat) : (clU τ).1 k x = τ.1 k x ∧ (clU τ).2 k x = τ.2 k x := by
  have h := clS_lo τ 6 k (by omega) x
  refine ⟨?_, ?_⟩
  · rw [← h.1]; refine (up2_a _ _ (by omega)).trans ?_; exact if_neg (fun q => by omega)
  · rw [← h.2]; exact flU_L _ _ _ _ _ _ (.inl (by omega))

set_option maxHeartbeats 4000000 in
set_option maxRecDepth 100000 in
theorem c_X12_file (l : Launch) (hfl : l.flags = flags0) (G : gW) (M : Mem) (mb : Nat) (b : Mu) (D P : Nat → Nat → Nat → Int64) (hm : MOK (mK M) (mN M) (mR M) mb) (htb : TEb (mI M) (mL M) mb b) (hwb : WFb b) (hD : (∀ i m p, i < 6 → m < 24 → p < 3 → mL M (ma mb 68) (72 * i + 3 * m + p) = D i m p)) (hP : (∀ i m p, i < 6 → m < 24 → p < 3 → mL M (ma mb 69) (72 * i + 3 * m + p) = P i m p)) : CT l yX12_file cX12_file 9 none 0 0 0 0 G M [.ref mb] (fun v M' => v = none ∧ fOut [52, 53, 54] mb M M' ∧ TEb (mI M') (mL M') mb (flU b D P 72)) := by
  refine CT.of hfl rfl (Nat.le_of_ble_eq_true rfl) ?_
  intro pp ee ss mm ar bw mt cd C hgX hr hini
  have hm0 := hm
  refine V.eLo (lo' := [(0, .ref mb)]) rfl ?_
  refine r_iconst C (v := nI 0) dX12_file_0 (by decide) ?_
  refine r_istore_n C (lo' := [(1, .int (nI 0)), (0, .ref mb)]) dX12_file_1 rfl (by decide) rfl ?_
  have lp2 : ∀ (k2 : Nat) (M1 : Mem) (k : Nat) (hk : k ≤ 72) (hfo : fOut [52, 53, 54] mb M M1) (hte : TEb (mI M1) (mL M1) mb (flU b D P k)), 73 - k < k2 → V pp l ee ({ frames := 0, cells := 0, slots := 0, locals := 0 } : Room) ss mm ar bw mt cd G (MQ bw (Ke G (fun v M' => v = none ∧ fOut [52, 53, 54] mb M M' ∧ TEb (mI M') (mL M') mb (flU b D P 72))) ar ss 0 0 (gA G)) 9 M1 0 0 2 [(0, .ref mb), (1, .int (nI k))] [] := by
    intro k2
    induction k2 with
    | zero => intro M1 k hk hfo hte hz2; exact absurd hz2 (Nat.not_lt_zero _)
    | succ k2 ih2 =>
      intro M1 k hk hfo hte hz2
      have hm := hfo.ok hm0
      have h46 : mI M1 mb 46 = b.1 46 46 := (hfo.s 46 rfl).trans (htb.s 46 rfl)
      have hop := hwb.1.2
      refine r_iload_n C 1 dX12_file_2 rfl rfl ?_
      refine r_bipush C (v := nI 72) dX12_file_3 (by decide) ?_
      refine r_icmp_geN C (t := 170) (by omega) (by omega) dX12_file_5 (by decide) (fun c5 => ?_) (fun c5 => ?_)
      · skip
        have ek : k = 72 := by omega
        subst ek
        exact r_vret C hr (⟨rfl, hfo, hte⟩) (by first | exact Nat.zero_le _ | decide) (by first | exact Nat.zero_le _ | decide) dX12_file_170
      · skip
        refine r_iload_n C 1 dX12_file_8 rfl rfl ?_
        refine r_bipush C (v := nI 24) dX12_file_9 (by decide) ?_
        refine r_iremN C (by omega) (by omega) (by omega) dX12_file_11 ?_
        refine r_istore_n C (lo' := [(2, .int (nI (k % 24))), (0, .ref mb), (1, .int (nI k))]) dX12_file_12 rfl (by decide) rfl ?_
        refine r_iload_n C 2 dX12_file_13 rfl rfl ?_
        refine r_bipush C (v := nI 24) dX12_file_14 (by decide) ?_
        refine r_idivN C (by omega) (by omega) (by omega) dX12_file_16 ?_
        refine r_istore_n C (lo' := [(3, .int (nI (k / 24))), (2, .int (nI (k % 24))), (0, .ref mb), (1, .int (nI k))]) dX12_file_17 rfl (by decide) rfl ?_
        refine r_iload_n C 1 dX12_file_18 rfl rfl ?_
        refine r_aload_n C 2 dX12_file_19 rfl rfl ?_
        refine r_getI C fl_X12_395 rfl hm.k dX12_file_20 ?_
        refine V.ei (y := nI (un b 46 46)) (h46.trans hwb.1.1) ?_
        refine r_icmp_gtN C (t := 164) (by omega) (by omega) dX12_file_23 (by decide) (fun c23 => ?_) (fun c23 => ?_)
        · skip
          refine r_iinc C (v := nI (k + 1)) (lo' := [(1, .int (nI (k + 1))), (3, .int (nI (k / 24))), (2, .int (nI (k % 24))), (0, .ref mb)]) 3 dX12_file_164 rfl (nI_addI k 1) (by decide) rfl ?_
          refine r_goto C (t := 2) dX12_file_167 (by decide) ?_
          refine V.sub [3, 0] (lo' := [(0, .ref mb), (1, .int (nI (k + 1)))]) rfl ?_
          exact ih2 M1 (k + 1) (by omega) hfo (by rw [flU_skip b D P (by omega)]; exact hte) (by omega)
        · skip
          refine r_lconst C (v := lN 0) dX12_file_26 (by decide) ?_
          refine r_lstore C (lo' := [(4, .long (lN 0)), (3, .int (nI (k / 24))), (2, .int (nI (k % 24))), (0, .ref mb), (1, .int (nI k))]) dX12_file_27 (by decide) rfl ?_
          refine r_lconst C (v := lN 0) dX12_file_29 (by decide) ?_
          refine r_lstore C (lo' := [(6, .long (lN 0)), (4, .long (lN 0)), (3, .int (nI (k / 24))), (2, .int (nI (k % 24))), (0, .ref mb), (1, .int (nI k))]) dX12_file_30 (by decide) rfl ?_
          refine r_iconst C (v := nI 0) dX12_file_32 (by decide) ?_
          refine r_istore C (lo' := [(8, .int (nI 0)), (6, .long (lN 0)), (4, .long (lN 0)), (3, .int (nI (k / 24))), (2, .int (nI (k % 24))), (0, .ref mb), (1, .int (nI k))]) dX12_file_33 (by decide) rfl ?_
          have lp35 : ∀ (k35 : Nat) (q : Nat) (hq : q ≤ 6), 7 - q < k35 → V pp l ee ({ frames := 0, cells := 0, slots := 0, locals := 0 } : Room) ss mm ar bw mt cd G (MQ bw (Ke G (fun v M' => v = none ∧ fOut [52, 53, 54] mb M M' ∧ TEb (mI M') (mL M') mb (flU b D P 72))) ar ss 0 0 (gA G)) 9 M1 0 0 35 [(0, .ref mb), (1, .int (nI k)), (2, .int (nI (k % 24))), (3, .int (nI (k / 24))), (4, .long (sumL (fun i => D i (k % 24) (k / 24)) q)), (6, .long (sumL (fun i => P i (k % 24) (k / 24)) q)), (8, .int (nI q))] [] := by
            intro k35
            induction k35 with
            | zero => intro q hq hz35; exact absurd hz35 (Nat.not_lt_zero _)
            | succ k35 ih35 =>
              intro q hq hz35
              refine r_iload C 6 dX12_file_35 rfl ?_
              refine r_bipush C (v := nI 6) dX12_file_37 (by decide) ?_
              refine r_icmp_geN C (t := 90) (by omega) (by omega) dX12_file_39 (by decide) (fun c39 => ?_) (fun c39 => ?_)
              · skip
                have eq6 : q = 6 := by omega
                subst eq6
                have jn119 : V pp l ee ({ frames := 0, cells := 0, slots := 0, locals := 0 } : Room) ss mm ar bw mt cd G (MQ bw (Ke G (fun v M' => v = none ∧ fOut [52, 53, 54] mb M M' ∧ TEb (mI M') (mL M') mb (flU b D P 72))) ar ss 0 0 (gA G)) 9 M1 0 0 119 [(0, .ref mb), (1, .int (nI k)), (2, .int (nI (k % 24))), (3, .int (nI (k / 24))), (4, .long (sumL (fun i => D i (k % 24) (k / 24)) 6)), (6, .long (sumL (fun i => P i (k % 24) (k / 24)) 6)), (8, .int (nI 6))] [.int (bI (decide (flS D k ≠ b.2 52 k ∨ flS P k ≠ b.2 53 k)))] := by
                  skip
                  refine r_istore C (lo' := [(8, .int (bI (decide (flS D k ≠ b.2 52 k ∨ flS P k ≠ b.2 53 k)))), (0, .ref mb), (1, .int (nI k)), (2, .int (nI (k % 24))), (3, .int (nI (k / 24))), (4, .long (sumL (fun i => D i (k % 24) (k / 24)) 6)), (6, .long (sumL (fun i => P i (k % 24) (k / 24)) 6))]) dX12_file_119 (by decide) rfl ?_
                  refine r_aload_n C 1 dX12_file_121 rfl rfl ?_
                  refine r_getR C (b := (ma mb 54)) fl_X12_140 rfl hm.k (hm.r 54 rfl) dX12_file_122 ?_
                  refine r_iload_n C 2 dX12_file_125 rfl rfl ?_
                  refine r_dup2 C dX12_file_126 rfl rfl ?_
                  refine r_ialoadN C (hm.i 54 20 rfl) (hm.n 54 72 rfl) (by omega) (by omega) dX12_file_127 ?_
                  refine V.ei (y := b.1 54 k) ((hte.i 54 rfl _).trans (flU_54 b D P k)) ?_
                  have jn146 : V pp l ee ({ frames := 0, cells := 0, slots := 0, locals := 0 } : Room) ss mm ar bw mt cd G (MQ bw (Ke G (fun v M' => v = none ∧ fOut [52, 53, 54] mb M M' ∧ TEb (mI M') (mL M') mb (flU b D P 72))) ar ss 0 0 (gA G)) 9 M1 0 0 146 [(8, .int (bI (decide (flS D k ≠ b.2 52 k ∨ flS P k ≠ b.2 53 k)))), (0, .ref mb), (1, .int (nI k)), (2, .int (nI (k % 24))), (3, .int (nI (k / 24))), (4, .long (sumL (fun i => D i (k % 24) (k / 24)) 6)), (6, .long (sumL (fun i => P i (k % 24) (k / 24)) 6))] [.int (if k % 24 < un b 46 46 ∧ (flS D k ≠ b.2 52 k ∨ flS P k ≠ b.2 53 k) then nI 1 else nI 0), .int (b.1 54 k), .int (nI k), .ref (ma mb 54)] := by
                    skip
                    refine r_iadd C dX12_file_146 ?_
                    refine r_iastoreN C (hm.i 54 20 rfl) (hm.n 54 72 rfl) (by omega) (by omega) dX12_file_147 ?_
                    refine r_aload_n C 1 dX12_file_148 rfl rfl ?_
                    refine r_getR C (b := (ma mb 52)) fl_X12_134 rfl hm.k (hm.r 52 rfl) dX12_file_149 ?_
                    refine r_iload_n C 2 dX12_file_152 rfl rfl ?_
                    refine r_lload C 5 dX12_file_153 rfl ?_
                    refine r_lastoreN C (hm.i 52 21 rfl) (hm.n 52 72 rfl) (by omega) (by omega) dX12_file_155 ?_
                    refine r_aload_n C 1 dX12_file_156 rfl rfl ?_
                    refine r_getR C (b := (ma mb 53)) fl_X12_137 rfl hm.k (hm.r 53 rfl) dX12_file_157 ?_
                    refine r_iload_n C 2 dX12_file_160 rfl rfl ?_
                    refine r_lload C 6 dX12_file_161 rfl ?_
                    refine r_lastoreN C (hm.i 53 21 rfl) (hm.n 53 72 rfl) (by omega) (by omega) dX12_file_163 ?_
                    refine r_iinc C (v := nI (k + 1)) (lo' := [(1, .int (nI (k + 1))), (8, .int (bI (decide (flS D k ≠ b.2 52 k ∨ flS P k ≠ b.2 53 k)))), (0, .ref mb), (2, .int (nI (k % 24))), (3, .int (nI (k / 24))), (4, .long (sumL (fun i => D i (k % 24) (k / 24)) 6)), (6, .long (sumL (fun i => P i (k % 24) (k / 24)) 6))]) 2 dX12_file_164 rfl (nI_addI k 1) (by decide) rfl ?_
                    refine r_goto C (t := 2) dX12_file_167 (by decide) ?_
                    refine V.sub [2, 0] (lo' := [(0, .ref mb), (1, .int (nI (k + 1)))]) rfl ?_
                    exact ih2 (wL (wL (wI M1 (ma mb 54) k ((b.1 54 k) + (if k % 24 < un b 46 46 ∧ (flS D k ≠ b.2 52 k ∨ flS P k ≠ b.2 53 k) then nI 1 else nI 0))) (ma mb 52) k (sumL (fun i => D i (k % 24) (k / 24)) 6)) (ma mb 53) k (sumL (fun i => P i (k % 24) (k / 24)) 6)) (k + 1) (by omega) (((hfo.setI 54 _ _ rfl).setL 52 _ _ rfl).setL 53 _ _ rfl) (by rw [← flU_do b D P (by omega)]; exact ((hte.ui 54 _ _ rfl).ul 52 _ _ rfl).ul 53 _ _ rfl) (by omega)
                  refine r_iload_n C 3 dX12_file_128 rfl rfl ?_
                  refine r_aload_n C 1 dX12_file_129 rfl rfl ?_
                  refine r_getI C fl_X12_395 rfl hm.k dX12_file_130 ?_
                  refine V.ei (y := nI (un b 46 46)) (h46.trans hwb.1.1) ?_
                  refine r_icmp_geN C (t := 145) (by omega) (by omega) dX12_file_133 (by decide) (fun c133 => ?_) (fun c133 => ?_)
                  · skip
                    refine r_iconst C (v := nI 0) dX12_file_145 (by decide) ?_
                    refine V.ei (y := (if k % 24 < un b 46 46 ∧ (flS D k ≠ b.2 52 k ∨ flS P k ≠ b.2 53 k) then nI 1 else nI 0)) (by rw [if_neg (fun z => by omega)]) ?_
                    exact jn146
                  · skip
                    refine r_iload C 0 dX12_file_136 rfl ?_
                    refine r_if_eqB C (t := 145) dX12_file_138 (by decide) (fun c138 => ?_) (fun c138 => ?_)
                    · skip
                      have c138d := of_decide_eq_false c138
                      refine r_iconst C (v := nI 0) dX12_file_145 (by decide) ?_
                      refine V.ei (y := (if k % 24 < un b 46 46 ∧ (flS D k ≠ b.2 52 k ∨ flS P k ≠ b.2 53 k) then nI 1 else nI 0)) (by rw [if_neg (fun z => c138d z.2)]) ?_
                      exact jn146
                    · skip
                      have c138d := of_decide_eq_true c138
                      refine r_iconst C (v := nI 1) dX12_file_141 (by decide) ?_
                      refine r_goto C (t := 146) dX12_file_142 (by decide) ?_
                      refine V.ei (y := (if k % 24 < un b 46 46 ∧ (flS D k ≠ b.2 52 k ∨ flS P k ≠ b.2 53 k) then nI 1 else nI 0)) (by rw [if_pos ⟨by omega, c138d⟩]) ?_
                      exact jn146
                refine r_lload C 4 dX12_file_90 rfl ?_
                refine r_aload_n C 0 dX12_file_92 rfl rfl ?_
                refine r_getR C (b := (ma mb 52)) fl_X12_134 rfl hm.k (hm.r 52 rfl) dX12_file_93 ?_
                refine r_iload_n C 1 dX12_file_96 rfl rfl ?_
                refine r_laloadN C (hm.i 52 21 rfl) (hm.n 52 72 rfl) (by omega) (by omega) dX12_file_97 ?_
                refine V.el (y := b.2 52 k) ((hte.l 52 rfl _).trans (flU_52 b D P k)) ?_
                refine r_lcmp_ne C (t := 114) dX12_file_98 dX12_file_99 (by decide) (fun c99 => ?_) (fun c99 => ?_)
                · skip
                  refine r_iconst C (v := nI 1) dX12_file_114 (by decide) ?_
                  refine r_goto C (t := 119) dX12_file_115 (by decide) ?_
                  refine V.eSt (st' := [.int (bI true)]) rfl ?_
                  refine V.ei (y := bI (decide (flS D k ≠ b.2 52 k ∨ flS P k ≠ b.2 53 k))) (congrArg bI (by exact (decide_eq_true (Or.inl c99)).symm)) ?_
                  exact jn119
                · skip
                  refine r_lload C 5 dX12_file_102 rfl ?_
                  refine r_aload_n C 0 dX12_file_104 rfl rfl ?_
                  refine r_getR C (b := (ma mb 53)) fl_X12_137 rfl hm.k (hm.r 53 rfl) dX12_file_105 ?_
                  refine r_iload_n C 1 dX12_file_108 rfl rfl ?_
                  refine r_laloadN C (hm.i 53 21 rfl) (hm.n 53 72 rfl) (by omega) (by omega) dX12_file_109 ?_
                  refine V.el (y := b.2 53 k) ((hte.l 53 rfl _).trans (flU_53 b D P k)) ?_
                  refine r_lcmp_eq C (t := 118) dX12_file_110 dX12_file_111 (by decide) (fun c111 => ?_) (fun c111 => ?_)
                  · skip
                    refine r_iconst C (v := nI 0) dX12_file_118 (by decide) ?_
                    refine V.eSt (st' := [.int (bI false)]) rfl ?_
                    refine V.ei (y := bI (decide (flS D k ≠ b.2 52 k ∨ flS P k ≠ b.2 53 k))) (congrArg bI (by exact (decide_eq_false (fun z => z.elim (fun a => a c99) (fun a => a c111))).symm)) ?_
                    exact jn119
                  · skip
                    refine r_iconst C (v := nI 1) dX12_file_114 (by decide) ?_
                    refine r_goto C (t := 119) dX12_file_115 (by decide) ?_
                    refine V.eSt (st' := [.int (bI true)]) rfl ?_
                    refine V.ei (y := bI (decide (flS D k ≠ b.2 52 k ∨ flS P k ≠ b.2 53 k))) (congrArg bI (by exact (decide_eq_true (Or.inr c111)).symm)) ?_
                    exact jn119
              · skip
                refine r_lload C 4 dX12_file_42 rfl ?_
                refine r_aload_n C 0 dX12_file_44 rfl rfl ?_
                refine r_getR C (b := (ma mb 68)) fl_X12_179 rfl hm.k (hm.r 68 rfl) dX12_file_45 ?_
                refine r_bipush C (v := nI 72) dX12_file_48 (by decide) ?_
                refine r_iload C 6 dX12_file_50 rfl ?_
                refine r_imulN C dX12_file_52 ?_
                refine r_iconst C (v := nI 3) dX12_file_53 (by decide) ?_
                refine r_iload_n C 2 dX12_file_54 rfl rfl ?_
                refine r_imulN C dX12_file_55 ?_
                refine r_iaddN C dX12_file_56 ?_
                refine r_iload_n C 3 dX12_file_57 rfl rfl ?_
                refine r_iaddN C dX12_file_58 ?_
                refine r_laloadN C (hm.i 68 21 rfl) (hm.n 68 432 rfl) (by omega) (by omega) dX12_file_59 ?_
                refine V.el (y := D q (k % 24) (k / 24)) ((congrFun (hfo.l 68 rfl) _).trans (hD q (k % 24) (k / 24) (by omega) (by omega) (by omega))) ?_
                refine r_ladd C dX12_file_60 ?_
                refine r_lstore C (lo' := [(4, .long ((sumL (fun i => D i (k % 24) (k / 24)) q) + (D q (k % 24) (k / 24)))), (0, .ref mb), (1, .int (nI k)), (2, .int (nI (k % 24))), (3, .int (nI (k / 24))), (6, .long (sumL (fun i => P i (k % 24) (k / 24)) q)), (8, .int (nI q))]) dX12_file_61 (by decide) rfl ?_
                refine r_lload C 5 dX12_file_63 rfl ?_
                refine r_aload_n C 1 dX12_file_65 rfl rfl ?_
                refine r_getR C (b := (ma mb 69)) fl_X12_182 rfl hm.k (hm.r 69 rfl) dX12_file_66 ?_
                refine r_bipush C (v := nI 72) dX12_file_69 (by decide) ?_
                refine r_iload C 6 dX12_file_71 rfl ?_
                refine r_imulN C dX12_file_73 ?_
                refine r_iconst C (v := nI 3) dX12_file_74 (by decide) ?_
                refine r_iload_n C 3 dX12_file_75 rfl rfl ?_
                refine r_imulN C dX12_file_76 ?_
                refine r_iaddN C dX12_file_77 ?_
                refine r_iload_n C 4 dX12_file_78 rfl rfl ?_
                refine r_iaddN C dX12_file_79 ?_
                refine r_laloadN C (hm.i 69 21 rfl) (hm.n 69 432 rfl) (by omega) (by omega) dX12_file_80 ?_
                refine V.el (y := P q (k % 24) (k / 24)) ((congrFun (hfo.l 69 rfl) _).trans (hP q (k % 24) (k / 24) (by omega) (by omega) (by omega))) ?_
                refine r_ladd C dX12_file_81 ?_
                refine r_lstore C (lo' := [(6, .long ((sumL (fun i => P i (k % 24) (k / 24)) q) + (P q (k % 24) (k / 24)))), (4, .long ((sumL (fun i => D i (k % 24) (k / 24)) q) + (D q (k % 24) (k / 24)))), (0, .ref mb), (1, .int (nI k)), (2, .int (nI (k % 24))), (3, .int (nI (k / 24))), (8, .int (nI q))]) dX12_file_82 (by decide) rfl ?_
                refine r_iinc C (v := nI (q + 1)) (lo' := [(8, .int (nI (q + 1))), (6, .long ((sumL (fun i => P i (k % 24) (k / 24)) q) + (P q (k % 24) (k / 24)))), (4, .long ((sumL (fun i => D i (k % 24) (k / 24)) q) + (D q (k % 24) (k / 24)))), (0, .ref mb), (1, .int (nI k)), (2, .int (nI (k % 24))), (3, .int (nI (k / 24)))]) 6 dX12_file_84 rfl (nI_addI q 1) (by decide) rfl ?_
                refine r_goto C (t := 35) dX12_file_87 (by decide) ?_
                have jb4 : ((sumL (fun i => D i (k % 24) (k / 24)) q) + (D q (k % 24) (k / 24))) = (sumL (fun i => D i (k % 24) (k / 24)) (q + 1)) := by rfl
                refine V.eLo (lo' := [(8, .int (nI (q + 1))), (6, .long ((sumL (fun i => P i (k % 24) (k / 24)) q) + (P q (k % 24) (k / 24)))), (4, .long (sumL (fun i => D i (k % 24) (k / 24)) (q + 1))), (0, .ref mb), (1, .int (nI k)), (2, .int (nI (k % 24))), (3, .int (nI (k / 24)))]) (congrArg (fun z_ => ([(8, .int (nI (q + 1))), (6, .long ((sumL (fun i => P i (k % 24) (k / 24)) q) + (P q (k % 24) (k / 24)))), (4, .long z_), (0, .ref mb), (1, .int (nI k)), (2, .int (nI (k % 24))), (3, .int (nI (k / 24)))] : List (Nat × Value))) jb4) ?_
                have jb6 : ((sumL (fun i => P i (k % 24) (k / 24)) q) + (P q (k % 24) (k / 24))) = (sumL (fun i => P i (k % 24) (k / 24)) (q + 1)) := by rfl
                refine V.eLo (lo' := [(8, .int (nI (q + 1))), (6, .long (sumL (fun i => P i (k % 24) (k / 24)) (q + 1))), (4, .long (sumL (fun i => D i (k % 24) (k / 24)) (q + 1))), (0, .ref mb), (1, .int (nI k)), (2, .int (nI (k % 24))), (3, .int (nI (k / 24)))]) (congrArg (fun z_ => ([(8, .int (nI (q + 1))), (6, .long z_), (4, .long (sumL (fun i => D i (k % 24) (k / 24)) (q + 1))), (0, .ref mb), (1, .int (nI k)), (2, .int (nI (k % 24))), (3, .int (nI (k / 24)))] : List (Nat × Value))) jb6) ?_
                refine V.sub [3, 4, 5, 6, 2, 1, 0] (lo' := [(0, .ref mb), (1, .int (nI k)), (2, .int (nI (k % 24))), (3, .int (nI (k / 24))), (4, .long (sumL (fun i => D i (k % 24) (k / 24)) (q + 1))), (6, .long (sumL (fun i => P i (k % 24) (k / 24)) (q + 1))), (8, .int (nI (q + 1)))]) rfl ?_
                exact ih35 (q + 1) (by omega) (by omega)
          refine V.sub [5, 6, 4, 3, 2, 1, 0] (lo' := [(0, .ref mb), (1, .int (nI k)), (2, .int (nI (k % 24))), (3, .int (nI (k / 24))), (4, .long (lN 0)), (6, .long (lN 0)), (8, .int (nI 0))]) rfl ?_
          exact lp35 _ 0 (Nat.zero_le _) (Nat.lt_succ_self _)
  refine V.sub [1, 0] (lo' := [(0, .ref mb), (1, .int (nI 0))]) rfl ?_
  exact lp2 _ M 0 (Nat.zero_le _) (fOut.rf _ _ _) (by rw [flU_0]; exact htb) (Nat.lt_succ_self _)
