/-! THE REFERENCE: formulas, a year's tax, pays that hold -/
def sck (k : Nat) : Bool := told k && ((mkd.getD k 0 != 0) && ((mrk.getD k 0 != 0) && (List.range 70).all (fun q => !told q || (mkd.getD q 0 == 0) || (q == k) || (mrk.getD q 0 != mrk.getD k 0))))
theorem sck_ne {k q : Nat} (h : sck k = true) (hq : told q = true) (hz : mkd.getD q 0 ≠ 0) (hk : q ≠ k) (mb : Nat) : ma mb q ≠ ma mb k := by
  unfold sck at h
  simp only [Bool.and_eq_true] at h
  have h7 : q < 70 := by unfold told at hq; simp only [Bool.and_eq_true, decide_eq_true_eq] at hq; omega
  have h3 := List.all_eq_true.mp h.2.2.2 q (List.mem_range.mpr h7)
  rw [hq] at h3
  simp only [Bool.not_true, Bool.false_or, Bool.or_eq_true, beq_iff_eq, bne_iff_ne] at h3
  have h4 : mrk.getD q 0 ≠ mrk.getD k 0 := by
    rcases h3 with (h3 | h3) | h3
    · exact absurd h3 hz
    · exact absurd h3 hk
    · exact h3
  unfold ma
  omega
theorem sck_0 {k : Nat} (h : sck k = true) (mb : Nat) : mb ≠ ma mb k := by
  unfold sck at h
  simp only [Bool.and_eq_true, bne_iff_ne] at h
  unfold ma
  have := h.2.2.1
  omega
/-- what was told changes -/
theorem TE.ui {i : Nat → Nat → Int32} {j : Nat → Nat → Int64} {mb : Nat} {τ : Mu} (h : TE i j mb τ) (k x : Nat) (v : Int32) (hc : sck k = true) : TE (up2 i (ma mb k) x v) j mb (up2 τ.1 k x v, τ.2) := by
  intro q hq
  have h2 := h q hq
  by_cases z : mkd.getD q 0 = 0
  · rw [if_pos z] at h2 ⊢
    have e : q ≠ k := fun e => by subst e; unfold sck at hc; simp only [Bool.and_eq_true, bne_iff_ne] at hc; exact hc.2.1 z
    rw [up2_a _ _ (sck_0 hc mb), h2]
    exact (up2_a _ _ e).symm
  · rw [if_neg z] at h2 ⊢
    by_cases e : q = k
    · subst e
      refine ⟨fun y => ?_, h2.2⟩
      have h3 := h2.1 y
      unfold up2
      rw [if_pos rfl]
      show (if y = x then v else i (ma mb q) y) = if q = q then (if y = x then v else τ.1 q y) else τ.1 q y
      rw [if_pos rfl, h3]
    · refine ⟨fun y => ?_, h2.2⟩
      rw [up2_a _ _ (sck_ne hc hq z e mb), h2.1 y]
      exact (up2_a _ _ e).symm
theorem TE.ul {i : Nat → Nat → Int32} {j : Nat → Nat → Int64} {mb : Nat} {τ : Mu} (h : TE i j mb τ) (k x : Nat) (v : Int64) (hc : sck k = true) : TE i (up2 j (ma mb k) x v) mb (τ.1, up2 τ.2 k x v) := by
  intro q hq
  have h2 := h q hq
  by_cases z : mkd.getD q 0 = 0
  · rw [if_pos z] at h2 ⊢
    exact h2
  · rw [if_neg z] at h2 ⊢
    by_cases e : q = k
    · subst e
      refine ⟨h2.1, fun y => ?_⟩
      have h3 := h2.2 y
      unfold up2
      rw [if_pos rfl]
      show (if y = x then v else j (ma mb q) y) = if q = q then (if y = x then v else τ.2 q y) else τ.2 q y
      rw [if_pos rfl, h3]
    · refine ⟨h2.1, fun y => ?_⟩
      rw [up2_a _ _ (sck_ne hc hq z e mb), h2.2 y]
      exact (up2_a _ _ e).symm
def sck0 (k : Nat) : Bool := (mkd.getD k 0 == 0) && (List.range 70).all (fun q => (mkd.getD q 0 == 0) || (mrk.getD q 0 != 0))
theorem TE.us {i : Nat → Nat → Int32} {j : Nat → Nat → Int64} {mb : Nat} {τ : Mu} (h : TE i j mb τ) (k : Nat) (v : Int32) (hc : sck0 k = true) : TE (up2 i mb k v) j mb (up2 τ.1 k k v, τ.2) := by
  unfold sck0 at hc
  simp only [Bool.and_eq_true, beq_iff_eq] at hc
  intro q hq
  have h2 := h q hq
  have h7 : q < 70 := by unfold told at hq; simp only [Bool.and_eq_true, decide_eq_true_eq] at hq; omega
  by_cases z : mkd.getD q 0 = 0
  · rw [if_pos z] at h2 ⊢
    by_cases e : q = k
    · subst e; rw [up2_same]; exact (up2_same _ _ _ _).symm
    · rw [up2_k _ _ e, h2]; exact (up2_a _ _ e).symm
  · rw [if_neg z] at h2 ⊢
    have h3 := List.all_eq_true.mp hc.2 q (List.mem_range.mpr h7)
    simp only [Bool.or_eq_true, beq_iff_eq, bne_iff_ne] at h3
    have h4 := h3.resolve_left z
    have e : q ≠ k := fun e => z (e ▸ hc.1)
    refine ⟨fun y => ?_, h2.2⟩
    rw [up2_a _ _ (by unfold ma; omega), h2.1 y]
    exact (up2_a _ _ e).symm
def spS (τ : Mu) (c n : Nat) : Mu := (fun k x => if k = 7 ∧ 720 * c ≤ x ∧ x < 720 * c + n then spreadV τ c (x - 720 * c + 1) else τ.1 k x, τ.2)
theorem spS_o (τ : Mu) (c n k x : Nat) (h : k ≠ 7) : (spS τ c n).1 k x = τ.1 k x := if_neg (fun q => h q.1)
theorem spS_0 (τ : Mu) (c : Nat) : spS τ c 0 = τ := by
  unfold spS
  rw [show (fun k x => if k = 7 ∧ 720 * c ≤ x ∧ x < 720 * c + 0 then spreadV τ c (x - 720 * c + 1) else τ.1 k x) = τ.1 from funext fun k => funext fun x => if_neg (fun q => by omega)]
theorem spS_s (τ : Mu) (c n : Nat) : (up2 (spS τ c n).1 7 (720 * c + n) (spreadV τ c (n + 1)), (spS τ c n).2) = spS τ c (n + 1) := by
  unfold spS
  refine Prod.ext (funext fun k => funext fun x => ?_) rfl
  show (if k = 7 then (if x = 720 * c + n then spreadV τ c (n + 1) else (if k = 7 ∧ 720 * c ≤ x ∧ x < 720 * c + n then spreadV τ c (x - 720 * c + 1) else τ.1 k x)) else (if k = 7 ∧ 720 * c ≤ x ∧ x < 720 * c + n then spreadV τ c (x - 720 * c + 1) else τ.1 k x)) = (if k = 7 ∧ 720 * c ≤ x ∧ x < 720 * c + (n + 1) then spreadV τ c (x - 720 * c + 1) else τ.1 k x)
  by_cases e : k = 7
  · rw [if_pos e]
    by_cases z : x = 720 * c + n
    · subst z; rw [if_pos rfl, if_pos ⟨e, by omega, by omega⟩, Nat.add_sub_cancel_left]
    · rw [if_neg z]; exact if_cg ⟨fun q => ⟨q.1, q.2.1, by omega⟩, fun q => ⟨q.1, q.2.1, by omega⟩⟩
  · rw [if_neg e, if_neg (fun q => e q.1), if_neg (fun q => e q.1)]
theorem oI_s {o : Option Nat} : oI o = match o with | none => -1 | some k => nI k := rfl

set_option maxHeartbeats 4000000 in
set_option maxRecDepth 100000 in
theorem c_X12_spread (l : Launch) (hfl : l.flags = flags0) (G : gW) (M : Mem) (mb : Nat) (τ : Mu) (hm : MOK (mK M) (mN M) (mR M) mb) (ht : TE (mI M) (mL M) mb τ) (c : Nat) (hc : c < 10) : CT l yX12_spread cX12_spread 4 none 0 0 0 0 G M [.ref mb, .int (nI c)] (fun v M' => v = none ∧ fOut [7] mb M M' ∧ TE (mI M') (mL M') mb (spS τ c 720)) := by
  refine CT.of hfl rfl (Nat.le_of_ble_eq_true rfl) ?_
  intro pp ee ss mm ar bw mt cd C hgX hr hini
  refine V.eLo (lo' := [(0, .ref mb), (1, .int (nI c))]) rfl ?_
  refine r_iconst C (v := nI 0) dX12_spread_0 (by decide) ?_
  refine r_istore_n C (lo' := [(2, .int (nI 0)), (0, .ref mb), (1, .int (nI c))]) dX12_spread_1 rfl (by decide) rfl ?_
  refine r_iconst C (v := nI 0) dX12_spread_2 (by decide) ?_
  refine r_istore_n C (lo' := [(3, .int (nI 0)), (2, .int (nI 0)), (0, .ref mb), (1, .int (nI c))]) dX12_spread_3 rfl (by decide) rfl ?_
  have lp4 : ∀ (k4 : Nat) (M1 : Mem) (d : Nat) (hd : d ≤ 720) (hfo : fOut [7] mb M M1) (hte : TE (mI M1) (mL M1) mb (spS τ c d)), 721 - d < k4 → V pp l ee ({ frames := 0, cells := 0, slots := 0, locals := 0 } : Room) ss mm ar bw mt cd G (MQ bw (Ke G (fun v M' => v = none ∧ fOut [7] mb M M' ∧ TE (mI M') (mL M') mb (spS τ c 720))) ar ss 0 0 (gA G)) 4 M1 0 0 4 [(0, .ref mb), (1, .int (nI c)), (2, .int (spreadV τ c d)), (3, .int (nI d))] [] := by
    intro k4
    induction k4 with
    | zero => intro M1 d hd hfo hte hz4; exact absurd hz4 (Nat.not_lt_zero _)
    | succ k4 ih4 =>
      intro M1 d hd hfo hte hz4
      have hm := hfo.ok hm
      refine r_iload_n C 3 dX12_spread_4 rfl rfl ?_
      refine r_sipush C (v := nI 720) dX12_spread_5 (by decide) ?_
      refine r_icmp_geN C (t := 62) (by omega) (by omega) dX12_spread_8 (by decide) (fun c8 => ?_) (fun c8 => ?_)
      · skip
        have ed : d = 720 := by omega
        subst ed
        exact r_vret C hr (⟨rfl, hfo, hte⟩) (by first | exact Nat.zero_le _ | decide) (by first | exact Nat.zero_le _ | decide) dX12_spread_62
      · skip
        have jn42 : V pp l ee ({ frames := 0, cells := 0, slots := 0, locals := 0 } : Room) ss mm ar bw mt cd G (MQ bw (Ke G (fun v M' => v = none ∧ fOut [7] mb M M' ∧ TE (mI M') (mL M') mb (spS τ c 720))) ar ss 0 0 (gA G)) 4 M1 0 0 42 [(0, .ref mb), (1, .int (nI c)), (2, .int (spreadV τ c d)), (3, .int (nI d))] [.int (spreadV τ c (d + 1))] := by
          skip
          refine r_istore_n C (lo' := [(2, .int (spreadV τ c (d + 1))), (0, .ref mb), (1, .int (nI c)), (3, .int (nI d))]) dX12_spread_42 rfl (by decide) rfl ?_
          refine r_aload_n C 1 dX12_spread_43 rfl rfl ?_
          refine r_getR C (b := (ma mb 7)) fl_X12_31 rfl hm.k (hm.r 7 rfl) dX12_spread_44 ?_
          refine r_sipush C (v := nI 720) dX12_spread_47 (by decide) ?_
          refine r_iload_n C 2 dX12_spread_50 rfl rfl ?_
          refine r_imulN C dX12_spread_51 ?_
          refine r_iload_n C 3 dX12_spread_52 rfl rfl ?_
          refine r_iaddN C dX12_spread_53 ?_
          refine r_iload_n C 0 dX12_spread_54 rfl rfl ?_
          refine r_iastoreN C (hm.i 7 20 rfl) (hm.n 7 7200 rfl) (by omega) (by omega) dX12_spread_55 ?_
          refine r_iinc C (v := nI (d + 1)) (lo' := [(3, .int (nI (d + 1))), (2, .int (spreadV τ c (d + 1))), (0, .ref mb), (1, .int (nI c))]) 3 dX12_spread_56 rfl (nI_addI d 1) (by decide) rfl ?_
          refine r_goto C (t := 4) dX12_spread_59 (by decide) ?_
          refine V.sub [2, 3, 1, 0] (lo' := [(0, .ref mb), (1, .int (nI c)), (2, .int (spreadV τ c (d + 1))), (3, .int (nI (d + 1)))]) rfl ?_
          exact ih4 (wI M1 (ma mb 7) (720 * c + d) (spreadV τ c (d + 1))) (d + 1) (by omega) (hfo.setI 7 _ _ rfl) (by rw [← spS_s]; exact hte.ui 7 _ _ rfl) (by omega)
        refine r_aload_n C 0 dX12_spread_11 rfl rfl ?_
        refine r_getR C (b := (ma mb 6)) fl_X12_28 rfl hm.k (hm.r 6 rfl) dX12_spread_12 ?_
        refine r_sipush C (v := nI 720) dX12_spread_15 (by decide) ?_
        refine r_iload_n C 1 dX12_spread_18 rfl rfl ?_
        refine r_imulN C dX12_spread_19 ?_
        refine r_iload_n C 3 dX12_spread_20 rfl rfl ?_
        refine r_iaddN C dX12_spread_21 ?_
        refine r_ialoadN C (hm.i 6 20 rfl) (hm.n 6 7200 rfl) (by omega) (by omega) dX12_spread_22 ?_
        refine V.ei (y := τ.1 6 (720 * c + d)) ((hte.i 6 rfl _).trans (spS_o _ _ _ _ _ (by decide))) ?_
        refine r_if_lt C (t := 41) dX12_spread_23 (by decide) (fun c23 => ?_) (fun c23 => ?_)
        · skip
          refine r_iload_n C 2 dX12_spread_41 rfl rfl ?_
          refine V.ei (y := spreadV τ c (d + 1)) (by show _ = if 0 ≤ τ.1 6 (720 * c + d) then τ.1 6 (720 * c + d) else spreadV τ c d; rw [if_neg (Int32.not_le.mpr c23)]) ?_
          exact jn42
        · skip
          refine r_aload_n C 0 dX12_spread_26 rfl rfl ?_
          refine r_getR C (b := (ma mb 6)) fl_X12_28 rfl hm.k (hm.r 6 rfl) dX12_spread_27 ?_
          refine r_sipush C (v := nI 720) dX12_spread_30 (by decide) ?_
          refine r_iload_n C 1 dX12_spread_33 rfl rfl ?_
          refine r_imulN C dX12_spread_34 ?_
          refine r_iload_n C 3 dX12_spread_35 rfl rfl ?_
          refine r_iaddN C dX12_spread_36 ?_
          refine r_ialoadN C (hm.i 6 20 rfl) (hm.n 6 7200 rfl) (by omega) (by omega) dX12_spread_37 ?_
          refine V.ei (y := τ.1 6 (720 * c + d)) ((hte.i 6 rfl _).trans (spS_o _ _ _ _ _ (by decide))) ?_
          refine r_goto C (t := 42) dX12_spread_38 (by decide) ?_
          refine V.ei (y := spreadV τ c (d + 1)) (by show _ = if 0 ≤ τ.1 6 (720 * c + d) then τ.1 6 (720 * c + d) else spreadV τ c d; rw [if_pos (Int32.not_lt.mp c23)]) ?_
          exact jn42
  refine V.sub [2, 3, 1, 0] (lo' := [(0, .ref mb), (1, .int (nI c)), (2, .int (nI 0)), (3, .int (nI 0))]) rfl ?_
  exact lp4 _ M 0 (Nat.zero_le _) (fOut.rf _ _ _) (by rw [spS_0]; exact ht) (Nat.lt_succ_self _)
