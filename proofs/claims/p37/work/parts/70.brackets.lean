/-! THE CLASS: brackets -/
/-- what the cells of brackets hold, those of the tables from at_ on -/
def BrF (τ : Mu) (at_ : Nat) (i : Nat → Nat → Int32) (f : Nat → Nat) : Prop :=
  (∀ k, k < 24 → i (f 1) k = nI (un τ 33 (at_ + k))) ∧ (∀ b, b < 4 → ∀ k, k < 24 → i (f (3 + b)) k = τ.1 34 (4 * (at_ + k) + b)) ∧ ∀ b, b < 4 → ∀ k, k < 24 → i (f (8 + b)) k = τ.1 35 (4 * (at_ + k) + b)
theorem BrF.cg {τ : Mu} {at_ : Nat} {i i' : Nat → Nat → Int32} {f : Nat → Nat} (h : BrF τ at_ i f) (e : ∀ o, o < 12 → i' (f o) = i (f o)) : BrF τ at_ i' f :=
  ⟨fun k hk => by rw [e 1 (by decide)]; exact h.1 k hk, fun b hb k hk => by rw [e _ (by omega)]; exact h.2.1 b hb k hk, fun b hb k hk => by rw [e _ (by omega)]; exact h.2.2 b hb k hk⟩
theorem lst_i {f : Nat → Bool} {k : Nat} (hk : f k = true) : ∀ {n : Nat}, k < n → (∀ j, k < j → j < n → f j = false) → lstN f n = some k
  | 0, h, _ => absurd h (Nat.not_lt_zero _)
  | n + 1, h, g => by
    show (if f n = true then some n else lstN f n) = some k
    by_cases e : k = n
    · subst e; rw [if_pos hk]
    · rw [if_neg (by rw [g n (by omega) (by omega)]; decide)]
      exact lst_i hk (by omega) (fun j a b => g j a (by omega))
theorem lst_z {f : Nat → Bool} : ∀ {n : Nat}, (∀ j, j < n → f j = false) → lstN f n = none
  | 0, _ => rfl
  | n + 1, g => by
    show (if f n = true then some n else lstN f n) = none
    rw [if_neg (by rw [g n (by omega)]; decide)]
    exact lst_z (fun j a => g j (by omega))
theorem yr_end {τ : Mu} {at_ m k : Nat} {x : Int64} (hk : k ≤ m) (hno : ∀ j, k < j → j ≤ m → un τ 33 (at_ + j) = 0) (h : k = 0 ∨ un τ 33 (at_ + k) ≠ 0) : yrS τ (at_ + k) x (un τ 33 (at_ + k)) = yearL τ at_ m x := by
  unfold yearL lastO
  have hz : ∀ j, k < j → j < m + 1 → hasB τ 3 at_ j = false := fun j a b => by
    unfold hasB
    rw [if_neg (by decide), if_neg (by decide), if_neg (by decide)]
    exact decide_eq_false (fun q => q (hno j a (by omega)))
  by_cases e : un τ 33 (at_ + k) = 0
  · have k0 : k = 0 := h.resolve_right (fun q => q e)
    subst k0
    rw [lst_z (fun j hj => by
      by_cases z : j = 0
      · subst z
        unfold hasB
        rw [if_neg (by decide), if_neg (by decide), if_neg (by decide)]
        exact decide_eq_false (fun q => q e)
      · exact hz j (by omega) hj), e]
    rfl
  · rw [lst_i (k := k) (by
      unfold hasB
      rw [if_neg (by decide), if_neg (by decide), if_neg (by decide)]
      exact decide_eq_true e) (by omega) hz]
theorem yr_T {τ : Mu} {i b : Nat} {x : Int64} : pzL (mnL x (lN (un τ 34 (4 * i + b))) - lN (yrLow τ i b)) * lN (un τ 35 (4 * i + b)) / lN 1000 = yrT τ i b x := by
  unfold yrT
  show pzL (yrP τ i b x) * _ / _ = _
  unfold pzL
  by_cases h : lN 0 < yrP τ i b x
  · rw [if_pos h, if_pos h]
  · rw [if_neg h, if_neg h, lN_mul, Nat.zero_mul]
    decide
set_option maxHeartbeats 4000000 in
set_option maxRecDepth 100000 in
theorem c_X1_takesEnd (l : Launch) (hfl : l.flags = flags0) (G : gW) (M : Mem) (f : Nat → Nat) (hb : Blk tbBr (mK M) (mN M) (mR M) f) (τ : Mu) (hw : WF τ) (at_ : Nat) (hat : at_ + 24 ≤ 144) (hf : BrF τ at_ (mI M) f) (m e : Nat) (hm : m < 24) (he : e < 2 ^ 31) : CT l yX1_takesEnd cX1_takesEnd 4 (some .boolean) 0 0 0 0 G M [.ref (f 0), .int (nI m), .int (nI e)] (fun v M' => v = some (.int (bI (decide (un τ 33 (at_ + m) = 0 ∨ (un τ 33 (at_ + m) < 4 ∧ un τ 34 (4 * (at_ + m) + (un τ 33 (at_ + m) - 1)) < e))))) ∧ M = M') := by
  refine CT.of hfl rfl (Nat.le_of_ble_eq_true rfl) ?_
  intro pp ee ss mm ar bw mt cd C hgX hr hini
  obtain ⟨hcn, hen, hpa⟩ := id hf
  have hbn := (hw.bn (at_ + m) (by omega)).2
  refine V.eLo (lo' := [(0, .ref (f 0)), (1, .int (nI m)), (2, .int (nI e))]) rfl ?_
  refine r_aload_n C 0 dX1_takesEnd_0 rfl rfl ?_
  refine r_getR C (b := (f 1)) fl_X1_9 rfl (hb.k 0 5 rfl) (hb.r 0 0 1 rfl) dX1_takesEnd_1 ?_
  refine r_iload_n C 1 dX1_takesEnd_4 rfl rfl ?_
  refine r_ialoadN C (hb.k 1 20 rfl) (hb.n 1 24 rfl) (by omega) (by omega) dX1_takesEnd_5 ?_
  refine V.ei (y := nI (un τ 33 (at_ + m))) (hcn m hm) ?_
  refine r_istore_n C (lo' := [(3, .int (nI (un τ 33 (at_ + m)))), (0, .ref (f 0)), (1, .int (nI m)), (2, .int (nI e))]) dX1_takesEnd_6 rfl (by decide) rfl ?_
  refine r_iload_n C 0 dX1_takesEnd_7 rfl rfl ?_
  refine r_if_eqN C (t := 30) (by omega) dX1_takesEnd_8 (by decide) (fun c8 => ?_) (fun c8 => ?_)
  · skip
    refine r_iconst C (v := nI 1) dX1_takesEnd_30 (by decide) ?_
    refine r_goto C (t := 35) dX1_takesEnd_31 (by decide) ?_
    exact r_zret C hr (by decide) (⟨congrArg (fun z => some (Value.int z)) (d_pos (by omega)).symm, rfl⟩) (by first | exact Nat.zero_le _ | decide) (by first | exact Nat.zero_le _ | decide) dX1_takesEnd_35
  · skip
    refine r_iload_n C 0 dX1_takesEnd_11 rfl rfl ?_
    refine r_iconst C (v := nI 4) dX1_takesEnd_12 (by decide) ?_
    refine r_icmp_geN C (t := 34) (by omega) (by omega) dX1_takesEnd_13 (by decide) (fun c13 => ?_) (fun c13 => ?_)
    · skip
      refine r_iconst C (v := nI 0) dX1_takesEnd_34 (by decide) ?_
      exact r_zret C hr (by decide) (⟨congrArg (fun z => some (Value.int z)) (d_neg (by omega)).symm, rfl⟩) (by first | exact Nat.zero_le _ | decide) (by first | exact Nat.zero_le _ | decide) dX1_takesEnd_35
    · skip
      refine r_iload_n C 3 dX1_takesEnd_16 rfl rfl ?_
      refine r_aload_n C 1 dX1_takesEnd_17 rfl rfl ?_
      refine r_getR C (b := (f 2)) fl_X1_17 rfl (hb.k 0 5 rfl) (hb.r 0 1 2 rfl) dX1_takesEnd_18 ?_
      refine r_iload_n C 0 dX1_takesEnd_21 rfl rfl ?_
      refine r_iconst C (v := nI 1) dX1_takesEnd_22 (by decide) ?_
      refine r_isubN C (by omega) dX1_takesEnd_23 ?_
      refine r_aaloadN C (b := (f (3 + ((un τ 33 (at_ + m)) - 1)))) 4 (by decide) (hb.k 2 27 rfl) (hb.n 2 4 rfl) (by omega) (by omega) (hb.ro 2 3 4 1 rfl ((un τ 33 (at_ + m)) - 1) (by omega)) dX1_takesEnd_24 ?_
      refine r_iload_n C 2 dX1_takesEnd_25 rfl rfl ?_
      refine r_ialoadN C (hb.ko 3 20 4 rfl ((un τ 33 (at_ + m)) - 1) (by omega)) (hb.no 3 24 4 rfl ((un τ 33 (at_ + m)) - 1) (by omega)) (by omega) (by omega) dX1_takesEnd_26 ?_
      refine V.ei (y := nI (un τ 34 (4 * (at_ + m) + (un τ 33 (at_ + m) - 1)))) ((hen _ (by omega) m hm).trans (hw.be (at_ + m) _ (by omega) (by omega)).1) ?_
      have hbl := (hw.be (at_ + m) (un τ 33 (at_ + m) - 1) (by omega) (by omega)).2
      refine r_icmp_leN C (t := 34) (by omega) (by omega) dX1_takesEnd_27 (by decide) (fun c27 => ?_) (fun c27 => ?_)
      · skip
        refine r_iconst C (v := nI 0) dX1_takesEnd_34 (by decide) ?_
        exact r_zret C hr (by decide) (⟨congrArg (fun z => some (Value.int z)) (d_neg (by omega)).symm, rfl⟩) (by first | exact Nat.zero_le _ | decide) (by first | exact Nat.zero_le _ | decide) dX1_takesEnd_35
      · skip
        refine r_iconst C (v := nI 1) dX1_takesEnd_30 (by decide) ?_
        refine r_goto C (t := 35) dX1_takesEnd_31 (by decide) ?_
        exact r_zret C hr (by decide) (⟨congrArg (fun z => some (Value.int z)) (d_pos (by omega)).symm, rfl⟩) (by first | exact Nat.zero_le _ | decide) (by first | exact Nat.zero_le _ | decide) dX1_takesEnd_35
section Bra
variable {M : Mem} {f : Nat → Nat} {c m e p : Nat}
theorem bra_n (hb : Blk tbBr (mK M) (mN M) (mR M) f) {o t : Nat} (h1 : o < 12) (h2 : t < 12) (h3 : o ≠ t) : f o ≠ f t := hb.neq (show o < 12 from h1) (show t < 12 from h2) h3
theorem bra_1 (hb : Blk tbBr (mK M) (mN M) (mR M) f) (hc : c < 4) : ∀ k, mI (wI (wI (wI M (f (3 + c)) m (nI e)) (f (8 + c)) m (nI p)) (f 1) m (nI (c + 1))) (f 1) k = if k = m then nI (c + 1) else mI M (f 1) k := by
  intro k
  by_cases z : k = m
  · subst z; rw [if_pos rfl]; exact wI_i
  · rw [if_neg z, wI_k z, wI_a (bra_n hb (by decide) (by omega) (by omega)), wI_a (bra_n hb (by decide) (by omega) (by omega))]
theorem bra_2 (hb : Blk tbBr (mK M) (mN M) (mR M) f) (hc : c < 4) : ∀ b, b < 4 → ∀ k, mI (wI (wI (wI M (f (3 + c)) m (nI e)) (f (8 + c)) m (nI p)) (f 1) m (nI (c + 1))) (f (3 + b)) k = if b = c ∧ k = m then nI e else mI M (f (3 + b)) k := by
  intro b hb4 k
  rw [wI_a (bra_n hb (by omega) (by omega) (by omega)), wI_a (bra_n hb (by omega) (by omega) (by omega))]
  by_cases z : b = c
  · subst z
    by_cases z2 : k = m
    · subst z2; rw [if_pos ⟨rfl, rfl⟩, wI_i]
    · rw [if_neg (fun q => z2 q.2), wI_k z2]
  · rw [if_neg (fun q => z q.1), wI_a (bra_n hb (by omega) (by omega) (by omega))]
theorem bra_3 (hb : Blk tbBr (mK M) (mN M) (mR M) f) (hc : c < 4) : ∀ b, b < 4 → ∀ k, mI (wI (wI (wI M (f (3 + c)) m (nI e)) (f (8 + c)) m (nI p)) (f 1) m (nI (c + 1))) (f (8 + b)) k = if b = c ∧ k = m then nI p else mI M (f (8 + b)) k := by
  intro b hb4 k
  rw [wI_a (bra_n hb (by omega) (by omega) (by omega))]
  by_cases z : b = c
  · subst z
    by_cases z2 : k = m
    · subst z2; rw [if_pos ⟨rfl, rfl⟩, wI_i]
    · rw [if_neg (fun q => z2 q.2), wI_k z2, wI_a (bra_n hb (by omega) (by omega) (by omega))]
  · rw [if_neg (fun q => z q.1), wI_a (bra_n hb (by omega) (by omega) (by omega)), wI_a (bra_n hb (by omega) (by omega) (by omega))]
end Bra
set_option maxHeartbeats 4000000 in
set_option maxRecDepth 100000 in
theorem c_X1_add (l : Launch) (hfl : l.flags = flags0) (G : gW) (M : Mem) (f : Nat → Nat) (hb : Blk tbBr (mK M) (mN M) (mR M) f) (τ : Mu) (hw : WF τ) (at_ : Nat) (hat : at_ + 24 ≤ 144) (hf : BrF τ at_ (mI M) f) (m e p : Nat) (hm : m < 24) (hc4 : un τ 33 (at_ + m) < 4) : CT l yX1_add cX1_add 5 none 0 0 0 0 G M [.ref (f 0), .int (nI m), .int (nI e), .int (nI p)] (fun v M' => v = none ∧ frm (fun a => a = f 1 ∨ a = f (3 + un τ 33 (at_ + m)) ∨ a = f (8 + un τ 33 (at_ + m))) M M' ∧ (∀ k, mI M' (f 1) k = if k = m then nI (un τ 33 (at_ + m) + 1) else mI M (f 1) k) ∧ (∀ b, b < 4 → ∀ k, mI M' (f (3 + b)) k = if b = un τ 33 (at_ + m) ∧ k = m then nI e else mI M (f (3 + b)) k) ∧ ∀ b, b < 4 → ∀ k, mI M' (f (8 + b)) k = if b = un τ 33 (at_ + m) ∧ k = m then nI p else mI M (f (8 + b)) k) := by
  refine CT.of hfl rfl (Nat.le_of_ble_eq_true rfl) ?_
  intro pp ee ss mm ar bw mt cd C hgX hr hini
  obtain ⟨hcn, hen, hpa⟩ := id hf
  refine V.eLo (lo' := [(0, .ref (f 0)), (1, .int (nI m)), (2, .int (nI e)), (3, .int (nI p))]) rfl ?_
  refine r_aload_n C 0 dX1_add_0 rfl rfl ?_
  refine r_getR C (b := (f 1)) fl_X1_9 rfl (hb.k 0 5 rfl) (hb.r 0 0 1 rfl) dX1_add_1 ?_
  refine r_iload_n C 1 dX1_add_4 rfl rfl ?_
  refine r_ialoadN C (hb.k 1 20 rfl) (hb.n 1 24 rfl) (by omega) (by omega) dX1_add_5 ?_
  refine V.ei (y := nI (un τ 33 (at_ + m))) (hcn m hm) ?_
  refine r_istore C (lo' := [(4, .int (nI (un τ 33 (at_ + m)))), (0, .ref (f 0)), (1, .int (nI m)), (2, .int (nI e)), (3, .int (nI p))]) dX1_add_6 (by decide) rfl ?_
  refine r_iload C 0 dX1_add_8 rfl ?_
  refine r_iconst C (v := nI 4) dX1_add_10 (by decide) ?_
  refine r_icmp_geN C (t := 44) (by omega) (by omega) dX1_add_11 (by decide) (fun c11 => ?_) (fun c11 => ?_)
  · exact absurd hc4 (by omega)
  · skip
    refine r_aload_n C 1 dX1_add_14 rfl rfl ?_
    refine r_getR C (b := (f 2)) fl_X1_17 rfl (hb.k 0 5 rfl) (hb.r 0 1 2 rfl) dX1_add_15 ?_
    refine r_iload C 0 dX1_add_18 rfl ?_
    refine r_aaloadN C (b := (f (3 + (un τ 33 (at_ + m))))) 4 (by decide) (hb.k 2 27 rfl) (hb.n 2 4 rfl) (by omega) (by omega) (hb.ro 2 3 4 1 rfl (un τ 33 (at_ + m)) (by omega)) dX1_add_20 ?_
    refine r_iload_n C 2 dX1_add_21 rfl rfl ?_
    refine r_iload_n C 3 dX1_add_22 rfl rfl ?_
    refine r_iastoreN C (hb.ko 3 20 4 rfl (un τ 33 (at_ + m)) (by omega)) (hb.no 3 24 4 rfl (un τ 33 (at_ + m)) (by omega)) (by omega) (by omega) dX1_add_23 ?_
    refine r_aload_n C 1 dX1_add_24 rfl rfl ?_
    refine r_getR C (b := (f 7)) fl_X1_20 rfl (hb.k 0 5 rfl) (hb.r 0 2 7 rfl) dX1_add_25 ?_
    refine r_iload C 0 dX1_add_28 rfl ?_
    refine r_aaloadN C (b := (f (8 + (un τ 33 (at_ + m))))) 4 (by decide) (hb.k 7 27 rfl) (hb.n 7 4 rfl) (by omega) (by omega) (hb.ro 7 8 4 1 rfl (un τ 33 (at_ + m)) (by omega)) dX1_add_30 ?_
    refine r_iload_n C 2 dX1_add_31 rfl rfl ?_
    refine r_iload_n C 4 dX1_add_32 rfl rfl ?_
    refine r_iastoreN C (hb.ko 8 20 4 rfl (un τ 33 (at_ + m)) (by omega)) (hb.no 8 24 4 rfl (un τ 33 (at_ + m)) (by omega)) (by omega) (by omega) dX1_add_33 ?_
    refine r_aload_n C 1 dX1_add_34 rfl rfl ?_
    refine r_getR C (b := (f 1)) fl_X1_9 rfl (hb.k 0 5 rfl) (hb.r 0 0 1 rfl) dX1_add_35 ?_
    refine r_iload_n C 2 dX1_add_38 rfl rfl ?_
    refine r_iload C 0 dX1_add_39 rfl ?_
    refine r_iconst C (v := nI 1) dX1_add_41 (by decide) ?_
    refine r_iaddN C dX1_add_42 ?_
    refine r_iastoreN C (hb.k 1 20 rfl) (hb.n 1 24 rfl) (by omega) (by omega) dX1_add_43 ?_
    exact r_vret C hr (⟨rfl, (frm.rf _ _).wi _ _ (.inr (.inl rfl)) |>.wi _ _ (.inr (.inr rfl)) |>.wi _ _ (.inl rfl), bra_1 hb hc4, bra_2 hb hc4, bra_3 hb hc4⟩) (by first | exact Nat.zero_le _ | decide) (by first | exact Nat.zero_le _ | decide) dX1_add_44
set_option maxHeartbeats 4000000 in
set_option maxRecDepth 100000 in
theorem c_X1_taxOn (l : Launch) (hfl : l.flags = flags0) (G : gW) (M : Mem) (f : Nat → Nat) (hb : Blk tbBr (mK M) (mN M) (mR M) f) (τ : Mu) (hw : WF τ) (at_ : Nat) (hat : at_ + 24 ≤ 144) (hf : BrF τ at_ (mI M) f) (x : Int64) (m : Nat) (hm : m < 24) : CT l yX1_taxOn cX1_taxOn 14 (some .long) 1 0 0 30 G M [.ref (f 0), .long x, .int (nI m)] (fun v M' => v = some (.long (yearL τ at_ m x)) ∧ M = M') := by
  refine CT.of hfl rfl (Nat.le_of_ble_eq_true rfl) ?_
  intro pp ee ss mm ar bw mt cd C hgX hr hini
  obtain ⟨hcn, hen, hpa⟩ := id hf
  refine V.eLo (lo' := [(0, .ref (f 0)), (1, .long x), (3, .int (nI m))]) rfl ?_
  refine r_iload_n C 2 dX1_taxOn_0 rfl rfl ?_
  refine r_istore C (lo' := [(4, .int (nI m)), (0, .ref (f 0)), (1, .long x), (3, .int (nI m))]) dX1_taxOn_1 (by decide) rfl ?_
  have lp3 : ∀ (k3 : Nat) (k : Nat) (hk : k ≤ m) (hno : ∀ j, k < j → j ≤ m → un τ 33 (at_ + j) = 0), k + 1 < k3 → V pp l ee ({ frames := 1, cells := 0, slots := 0, locals := 30 } : Room) ss mm ar bw mt cd G (MQ bw (Ke G (fun v M' => v = some (.long (yearL τ at_ m x)) ∧ M = M')) ar ss 0 0 (gA G)) 14 M 0 0 3 [(0, .ref (f 0)), (1, .long x), (3, .int (nI m)), (4, .int (nI k))] [] := by
    intro k3
    induction k3 with
    | zero => intro k hk hno hz3; exact absurd hz3 (Nat.not_lt_zero _)
    | succ k3 ih3 =>
      intro k hk hno hz3
      have hbn := (hw.bn (at_ + k) (by omega)).2
      refine r_iload C 3 dX1_taxOn_3 rfl ?_
      refine r_if_leN C (t := 24) (by omega) dX1_taxOn_5 (by decide) (fun c5 => ?_) (fun c5 => ?_)
      · skip
        have hd : k = 0 ∨ un τ 33 (at_ + k) ≠ 0 := .inl (by omega)
        refine r_lconst C (v := lN 0) dX1_taxOn_24 (by decide) ?_
        refine r_lstore C (lo' := [(5, .long (lN 0)), (0, .ref (f 0)), (1, .long x), (3, .int (nI m)), (4, .int (nI k))]) dX1_taxOn_25 (by decide) rfl ?_
        refine r_lconst C (v := lN 0) dX1_taxOn_27 (by decide) ?_
        refine r_lstore C (lo' := [(7, .long (lN 0)), (5, .long (lN 0)), (0, .ref (f 0)), (1, .long x), (3, .int (nI m)), (4, .int (nI k))]) dX1_taxOn_28 (by decide) rfl ?_
        refine r_iconst C (v := nI 0) dX1_taxOn_30 (by decide) ?_
        refine r_istore C (lo' := [(9, .int (nI 0)), (7, .long (lN 0)), (5, .long (lN 0)), (0, .ref (f 0)), (1, .long x), (3, .int (nI m)), (4, .int (nI k))]) dX1_taxOn_31 (by decide) rfl ?_
        have lp33 : ∀ (k33 : Nat) (b : Nat) (hbb : b ≤ un τ 33 (at_ + k)), un τ 33 (at_ + k) + 1 - b < k33 → V pp l ee ({ frames := 1, cells := 0, slots := 0, locals := 30 } : Room) ss mm ar bw mt cd G (MQ bw (Ke G (fun v M' => v = some (.long (yearL τ at_ m x)) ∧ M = M')) ar ss 0 0 (gA G)) 14 M 0 0 33 [(0, .ref (f 0)), (1, .long x), (3, .int (nI m)), (4, .int (nI k)), (5, .long (yrS τ (at_ + k) x b)), (7, .long (lN (yrLow τ (at_ + k) b))), (9, .int (nI b))] [] := by
          intro k33
          induction k33 with
          | zero => intro b hbb hz33; exact absurd hz33 (Nat.not_lt_zero _)
          | succ k33 ih33 =>
            intro b hbb hz33
            refine r_iload C 6 dX1_taxOn_33 rfl ?_
            refine r_aload_n C 0 dX1_taxOn_35 rfl rfl ?_
            refine r_getR C (b := (f 1)) fl_X1_9 rfl (hb.k 0 5 rfl) (hb.r 0 0 1 rfl) dX1_taxOn_36 ?_
            refine r_iload C 3 dX1_taxOn_39 rfl ?_
            refine r_ialoadN C (hb.k 1 20 rfl) (hb.n 1 24 rfl) (by omega) (by omega) dX1_taxOn_41 ?_
            refine V.ei (y := nI (un τ 33 (at_ + k))) (hcn k (by omega)) ?_
            refine r_icmp_geN C (t := 112) (by omega) (by omega) dX1_taxOn_42 (by decide) (fun c42 => ?_) (fun c42 => ?_)
            · skip
              have eb : b = un τ 33 (at_ + k) := by omega
              refine r_lload C 4 dX1_taxOn_112 rfl ?_
              exact r_lret C hr (⟨by rw [eb, yr_end hk hno hd], rfl⟩) (by first | exact Nat.zero_le _ | decide) (by first | exact Nat.zero_le _ | decide) dX1_taxOn_114
            · skip
              have hbe := (hw.be (at_ + k) b (by omega) (by omega)).2
              have hbt := (hw.bt (at_ + k) b (by omega) (by omega)).2
              refine r_iload C 6 dX1_taxOn_45 rfl ?_
              refine r_iconst C (v := nI 4) dX1_taxOn_47 (by decide) ?_
              refine r_icmp_geN C (t := 112) (by omega) (by omega) dX1_taxOn_48 (by decide) (fun c48 => ?_) (fun c48 => ?_)
              · exact absurd hbn (by omega)
              · skip
                refine r_aload_n C 0 dX1_taxOn_51 rfl rfl ?_
                refine r_getR C (b := (f 2)) fl_X1_17 rfl (hb.k 0 5 rfl) (hb.r 0 1 2 rfl) dX1_taxOn_52 ?_
                refine r_iload C 6 dX1_taxOn_55 rfl ?_
                refine r_aaloadN C (b := (f (3 + b))) 4 (by decide) (hb.k 2 27 rfl) (hb.n 2 4 rfl) (by omega) (by omega) (hb.ro 2 3 4 1 rfl b (by omega)) dX1_taxOn_57 ?_
                refine r_iload C 3 dX1_taxOn_58 rfl ?_
                refine r_ialoadN C (hb.ko 3 20 4 rfl b (by omega)) (hb.no 3 24 4 rfl b (by omega)) (by omega) (by omega) dX1_taxOn_60 ?_
                refine V.ei (y := nI (un τ 34 (4 * (at_ + k) + b))) ((hen b (by omega) k (by omega)).trans (hw.be (at_ + k) b (by omega) (by omega)).1) ?_
                refine r_i2lN C (by omega) dX1_taxOn_61 ?_
                refine r_lstore C (lo' := [(10, .long (lN (un τ 34 (4 * (at_ + k) + b)))), (0, .ref (f 0)), (1, .long x), (3, .int (nI m)), (4, .int (nI k)), (5, .long (yrS τ (at_ + k) x b)), (7, .long (lN (yrLow τ (at_ + k) b))), (9, .int (nI b))]) dX1_taxOn_62 (by decide) rfl ?_
                refine r_lconst C (v := lN 0) dX1_taxOn_64 (by decide) ?_
                refine r_lload_n C 2 dX1_taxOn_65 rfl rfl ?_
                refine r_lload C 0 dX1_taxOn_66 rfl ?_
                refine r_minL C km_X1_23 (Nat.le_of_ble_eq_true rfl) (Nat.le_of_ble_eq_true rfl) (by first | exact Nat.zero_le _ | decide) (by first | exact Nat.zero_le _ | decide) dX1_taxOn_68 ?_
                refine r_lload C 6 dX1_taxOn_71 rfl ?_
                refine r_lsub C dX1_taxOn_73 ?_
                refine r_maxL C km_X1_29 (Nat.le_of_ble_eq_true rfl) (Nat.le_of_ble_eq_true rfl) (by first | exact Nat.zero_le _ | decide) (by first | exact Nat.zero_le _ | decide) dX1_taxOn_74 ?_
                refine V.el (y := pzL (mnL x (lN (un τ 34 (4 * (at_ + k) + b))) - lN (yrLow τ (at_ + k) b))) (by rw [lmax_pz, lmin_mn]) ?_
                refine r_lstore C (lo' := [(12, .long (pzL (mnL x (lN (un τ 34 (4 * (at_ + k) + b))) - lN (yrLow τ (at_ + k) b)))), (10, .long (lN (un τ 34 (4 * (at_ + k) + b)))), (0, .ref (f 0)), (1, .long x), (3, .int (nI m)), (4, .int (nI k)), (5, .long (yrS τ (at_ + k) x b)), (7, .long (lN (yrLow τ (at_ + k) b))), (9, .int (nI b))]) dX1_taxOn_77 (by decide) rfl ?_
                refine r_lload C 6 dX1_taxOn_79 rfl ?_
                refine r_lload C 0 dX1_taxOn_81 rfl ?_
                refine r_aload_n C 2 dX1_taxOn_83 rfl rfl ?_
                refine r_getR C (b := (f 7)) fl_X1_20 rfl (hb.k 0 5 rfl) (hb.r 0 2 7 rfl) dX1_taxOn_84 ?_
                refine r_iload C 8 dX1_taxOn_87 rfl ?_
                refine r_aaloadN C (b := (f (8 + b))) 4 (by decide) (hb.k 7 27 rfl) (hb.n 7 4 rfl) (by omega) (by omega) (hb.ro 7 8 4 1 rfl b (by omega)) dX1_taxOn_89 ?_
                refine r_iload C 5 dX1_taxOn_90 rfl ?_
                refine r_ialoadN C (hb.ko 8 20 4 rfl b (by omega)) (hb.no 8 24 4 rfl b (by omega)) (by omega) (by omega) dX1_taxOn_92 ?_
                refine V.ei (y := nI (un τ 35 (4 * (at_ + k) + b))) ((hpa b (by omega) k (by omega)).trans (hw.bt (at_ + k) b (by omega) (by omega)).1) ?_
                refine r_i2lN C (by omega) dX1_taxOn_93 ?_
                refine r_lmul C dX1_taxOn_94 ?_
                refine r_ldc2 C (v := 1000) kl_X1_32 dX1_taxOn_95 ?_
                refine V.el (y := lN 1000) (by decide) ?_
                refine r_ldiv C dX1_taxOn_98 (by decide) ?_
                refine r_ladd C dX1_taxOn_99 ?_
                refine r_lstore C (lo' := [(5, .long ((yrS τ (at_ + k) x b) + (((pzL (mnL x (lN (un τ 34 (4 * (at_ + k) + b))) - lN (yrLow τ (at_ + k) b))) * (lN (un τ 35 (4 * (at_ + k) + b)))) / (lN 1000)))), (12, .long (pzL (mnL x (lN (un τ 34 (4 * (at_ + k) + b))) - lN (yrLow τ (at_ + k) b)))), (10, .long (lN (un τ 34 (4 * (at_ + k) + b)))), (0, .ref (f 0)), (1, .long x), (3, .int (nI m)), (4, .int (nI k)), (7, .long (lN (yrLow τ (at_ + k) b))), (9, .int (nI b))]) dX1_taxOn_100 (by decide) rfl ?_
                refine r_lload C 2 dX1_taxOn_102 rfl ?_
                refine r_lstore C (lo' := [(7, .long (lN (un τ 34 (4 * (at_ + k) + b)))), (5, .long ((yrS τ (at_ + k) x b) + (((pzL (mnL x (lN (un τ 34 (4 * (at_ + k) + b))) - lN (yrLow τ (at_ + k) b))) * (lN (un τ 35 (4 * (at_ + k) + b)))) / (lN 1000)))), (12, .long (pzL (mnL x (lN (un τ 34 (4 * (at_ + k) + b))) - lN (yrLow τ (at_ + k) b)))), (10, .long (lN (un τ 34 (4 * (at_ + k) + b)))), (0, .ref (f 0)), (1, .long x), (3, .int (nI m)), (4, .int (nI k)), (9, .int (nI b))]) dX1_taxOn_104 (by decide) rfl ?_
                refine r_iinc C (v := nI (b + 1)) (lo' := [(9, .int (nI (b + 1))), (7, .long (lN (un τ 34 (4 * (at_ + k) + b)))), (5, .long ((yrS τ (at_ + k) x b) + (((pzL (mnL x (lN (un τ 34 (4 * (at_ + k) + b))) - lN (yrLow τ (at_ + k) b))) * (lN (un τ 35 (4 * (at_ + k) + b)))) / (lN 1000)))), (12, .long (pzL (mnL x (lN (un τ 34 (4 * (at_ + k) + b))) - lN (yrLow τ (at_ + k) b)))), (10, .long (lN (un τ 34 (4 * (at_ + k) + b)))), (0, .ref (f 0)), (1, .long x), (3, .int (nI m)), (4, .int (nI k))]) 8 dX1_taxOn_106 rfl (nI_addI b 1) (by decide) rfl ?_
                refine r_goto C (t := 33) dX1_taxOn_109 (by decide) ?_
                have jb5 : ((yrS τ (at_ + k) x b) + (((pzL (mnL x (lN (un τ 34 (4 * (at_ + k) + b))) - lN (yrLow τ (at_ + k) b))) * (lN (un τ 35 (4 * (at_ + k) + b)))) / (lN 1000))) = (yrS τ (at_ + k) x (b + 1)) := by show _ = yrS τ (at_ + k) x b + yrT τ (at_ + k) b x; rw [yr_T]
                refine V.eLo (lo' := [(9, .int (nI (b + 1))), (7, .long (lN (un τ 34 (4 * (at_ + k) + b)))), (5, .long (yrS τ (at_ + k) x (b + 1))), (12, .long (pzL (mnL x (lN (un τ 34 (4 * (at_ + k) + b))) - lN (yrLow τ (at_ + k) b)))), (10, .long (lN (un τ 34 (4 * (at_ + k) + b)))), (0, .ref (f 0)), (1, .long x), (3, .int (nI m)), (4, .int (nI k))]) (congrArg (fun z_ => ([(9, .int (nI (b + 1))), (7, .long (lN (un τ 34 (4 * (at_ + k) + b)))), (5, .long z_), (12, .long (pzL (mnL x (lN (un τ 34 (4 * (at_ + k) + b))) - lN (yrLow τ (at_ + k) b)))), (10, .long (lN (un τ 34 (4 * (at_ + k) + b)))), (0, .ref (f 0)), (1, .long x), (3, .int (nI m)), (4, .int (nI k))] : List (Nat × Value))) jb5) ?_
                have jb7 : (un τ 34 (4 * (at_ + k) + b)) = (yrLow τ (at_ + k) (b + 1)) := by rfl
                refine V.eLo (lo' := [(9, .int (nI (b + 1))), (7, .long (lN (yrLow τ (at_ + k) (b + 1)))), (5, .long (yrS τ (at_ + k) x (b + 1))), (12, .long (pzL (mnL x (lN (un τ 34 (4 * (at_ + k) + b))) - lN (yrLow τ (at_ + k) b)))), (10, .long (lN (un τ 34 (4 * (at_ + k) + b)))), (0, .ref (f 0)), (1, .long x), (3, .int (nI m)), (4, .int (nI k))]) (congrArg (fun z_ => ([(9, .int (nI (b + 1))), (7, .long (lN z_)), (5, .long (yrS τ (at_ + k) x (b + 1))), (12, .long (pzL (mnL x (lN (un τ 34 (4 * (at_ + k) + b))) - lN (yrLow τ (at_ + k) b)))), (10, .long (lN (un τ 34 (4 * (at_ + k) + b)))), (0, .ref (f 0)), (1, .long x), (3, .int (nI m)), (4, .int (nI k))] : List (Nat × Value))) jb7) ?_
                refine V.sub [5, 6, 7, 8, 2, 1, 0] (lo' := [(0, .ref (f 0)), (1, .long x), (3, .int (nI m)), (4, .int (nI k)), (5, .long (yrS τ (at_ + k) x (b + 1))), (7, .long (lN (yrLow τ (at_ + k) (b + 1)))), (9, .int (nI (b + 1)))]) rfl ?_
                exact ih33 (b + 1) (by omega) (by omega)
        refine V.sub [3, 4, 5, 6, 2, 1, 0] (lo' := [(0, .ref (f 0)), (1, .long x), (3, .int (nI m)), (4, .int (nI k)), (5, .long (lN 0)), (7, .long (lN 0)), (9, .int (nI 0))]) rfl ?_
        exact lp33 _ 0 (Nat.zero_le _) (Nat.lt_succ_self _)
      · skip
        refine r_aload_n C 0 dX1_taxOn_8 rfl rfl ?_
        refine r_getR C (b := (f 1)) fl_X1_9 rfl (hb.k 0 5 rfl) (hb.r 0 0 1 rfl) dX1_taxOn_9 ?_
        refine r_iload C 3 dX1_taxOn_12 rfl ?_
        refine r_ialoadN C (hb.k 1 20 rfl) (hb.n 1 24 rfl) (by omega) (by omega) dX1_taxOn_14 ?_
        refine V.ei (y := nI (un τ 33 (at_ + k))) (hcn k (by omega)) ?_
        refine r_if_neN C (t := 24) (by omega) dX1_taxOn_15 (by decide) (fun c15 => ?_) (fun c15 => ?_)
        · skip
          have hd : k = 0 ∨ un τ 33 (at_ + k) ≠ 0 := .inr (by omega)
          refine r_lconst C (v := lN 0) dX1_taxOn_24 (by decide) ?_
          refine r_lstore C (lo' := [(5, .long (lN 0)), (0, .ref (f 0)), (1, .long x), (3, .int (nI m)), (4, .int (nI k))]) dX1_taxOn_25 (by decide) rfl ?_
          refine r_lconst C (v := lN 0) dX1_taxOn_27 (by decide) ?_
          refine r_lstore C (lo' := [(7, .long (lN 0)), (5, .long (lN 0)), (0, .ref (f 0)), (1, .long x), (3, .int (nI m)), (4, .int (nI k))]) dX1_taxOn_28 (by decide) rfl ?_
          refine r_iconst C (v := nI 0) dX1_taxOn_30 (by decide) ?_
          refine r_istore C (lo' := [(9, .int (nI 0)), (7, .long (lN 0)), (5, .long (lN 0)), (0, .ref (f 0)), (1, .long x), (3, .int (nI m)), (4, .int (nI k))]) dX1_taxOn_31 (by decide) rfl ?_
          have lp33 : ∀ (k33 : Nat) (b : Nat) (hbb : b ≤ un τ 33 (at_ + k)), un τ 33 (at_ + k) + 1 - b < k33 → V pp l ee ({ frames := 1, cells := 0, slots := 0, locals := 30 } : Room) ss mm ar bw mt cd G (MQ bw (Ke G (fun v M' => v = some (.long (yearL τ at_ m x)) ∧ M = M')) ar ss 0 0 (gA G)) 14 M 0 0 33 [(0, .ref (f 0)), (1, .long x), (3, .int (nI m)), (4, .int (nI k)), (5, .long (yrS τ (at_ + k) x b)), (7, .long (lN (yrLow τ (at_ + k) b))), (9, .int (nI b))] [] := by
            intro k33
            induction k33 with
            | zero => intro b hbb hz33; exact absurd hz33 (Nat.not_lt_zero _)
            | succ k33 ih33 =>
              intro b hbb hz33
              refine r_iload C 6 dX1_taxOn_33 rfl ?_
              refine r_aload_n C 0 dX1_taxOn_35 rfl rfl ?_
              refine r_getR C (b := (f 1)) fl_X1_9 rfl (hb.k 0 5 rfl) (hb.r 0 0 1 rfl) dX1_taxOn_36 ?_
              refine r_iload C 3 dX1_taxOn_39 rfl ?_
              refine r_ialoadN C (hb.k 1 20 rfl) (hb.n 1 24 rfl) (by omega) (by omega) dX1_taxOn_41 ?_
              refine V.ei (y := nI (un τ 33 (at_ + k))) (hcn k (by omega)) ?_
              refine r_icmp_geN C (t := 112) (by omega) (by omega) dX1_taxOn_42 (by decide) (fun c42 => ?_) (fun c42 => ?_)
              · skip
                have eb : b = un τ 33 (at_ + k) := by omega
                refine r_lload C 4 dX1_taxOn_112 rfl ?_
                exact r_lret C hr (⟨by rw [eb, yr_end hk hno hd], rfl⟩) (by first | exact Nat.zero_le _ | decide) (by first | exact Nat.zero_le _ | decide) dX1_taxOn_114
              · skip
                have hbe := (hw.be (at_ + k) b (by omega) (by omega)).2
                have hbt := (hw.bt (at_ + k) b (by omega) (by omega)).2
                refine r_iload C 6 dX1_taxOn_45 rfl ?_
                refine r_iconst C (v := nI 4) dX1_taxOn_47 (by decide) ?_
                refine r_icmp_geN C (t := 112) (by omega) (by omega) dX1_taxOn_48 (by decide) (fun c48 => ?_) (fun c48 => ?_)
                · exact absurd hbn (by omega)
                · skip
                  refine r_aload_n C 0 dX1_taxOn_51 rfl rfl ?_
                  refine r_getR C (b := (f 2)) fl_X1_17 rfl (hb.k 0 5 rfl) (hb.r 0 1 2 rfl) dX1_taxOn_52 ?_
                  refine r_iload C 6 dX1_taxOn_55 rfl ?_
                  refine r_aaloadN C (b := (f (3 + b))) 4 (by decide) (hb.k 2 27 rfl) (hb.n 2 4 rfl) (by omega) (by omega) (hb.ro 2 3 4 1 rfl b (by omega)) dX1_taxOn_57 ?_
                  refine r_iload C 3 dX1_taxOn_58 rfl ?_
                  refine r_ialoadN C (hb.ko 3 20 4 rfl b (by omega)) (hb.no 3 24 4 rfl b (by omega)) (by omega) (by omega) dX1_taxOn_60 ?_
                  refine V.ei (y := nI (un τ 34 (4 * (at_ + k) + b))) ((hen b (by omega) k (by omega)).trans (hw.be (at_ + k) b (by omega) (by omega)).1) ?_
                  refine r_i2lN C (by omega) dX1_taxOn_61 ?_
                  refine r_lstore C (lo' := [(10, .long (lN (un τ 34 (4 * (at_ + k) + b)))), (0, .ref (f 0)), (1, .long x), (3, .int (nI m)), (4, .int (nI k)), (5, .long (yrS τ (at_ + k) x b)), (7, .long (lN (yrLow τ (at_ + k) b))), (9, .int (nI b))]) dX1_taxOn_62 (by decide) rfl ?_
                  refine r_lconst C (v := lN 0) dX1_taxOn_64 (by decide) ?_
                  refine r_lload_n C 2 dX1_taxOn_65 rfl rfl ?_
                  refine r_lload C 0 dX1_taxOn_66 rfl ?_
                  refine r_minL C km_X1_23 (Nat.le_of_ble_eq_true rfl) (Nat.le_of_ble_eq_true rfl) (by first | exact Nat.zero_le _ | decide) (by first | exact Nat.zero_le _ | decide) dX1_taxOn_68 ?_
                  refine r_lload C 6 dX1_taxOn_71 rfl ?_
                  refine r_lsub C dX1_taxOn_73 ?_
                  refine r_maxL C km_X1_29 (Nat.le_of_ble_eq_true rfl) (Nat.le_of_ble_eq_true rfl) (by first | exact Nat.zero_le _ | decide) (by first | exact Nat.zero_le _ | decide) dX1_taxOn_74 ?_
                  refine V.el (y := pzL (mnL x (lN (un τ 34 (4 * (at_ + k) + b))) - lN (yrLow τ (at_ + k) b))) (by rw [lmax_pz, lmin_mn]) ?_
                  refine r_lstore C (lo' := [(12, .long (pzL (mnL x (lN (un τ 34 (4 * (at_ + k) + b))) - lN (yrLow τ (at_ + k) b)))), (10, .long (lN (un τ 34 (4 * (at_ + k) + b)))), (0, .ref (f 0)), (1, .long x), (3, .int (nI m)), (4, .int (nI k)), (5, .long (yrS τ (at_ + k) x b)), (7, .long (lN (yrLow τ (at_ + k) b))), (9, .int (nI b))]) dX1_taxOn_77 (by decide) rfl ?_
                  refine r_lload C 6 dX1_taxOn_79 rfl ?_
                  refine r_lload C 0 dX1_taxOn_81 rfl ?_
                  refine r_aload_n C 2 dX1_taxOn_83 rfl rfl ?_
                  refine r_getR C (b := (f 7)) fl_X1_20 rfl (hb.k 0 5 rfl) (hb.r 0 2 7 rfl) dX1_taxOn_84 ?_
                  refine r_iload C 8 dX1_taxOn_87 rfl ?_
                  refine r_aaloadN C (b := (f (8 + b))) 4 (by decide) (hb.k 7 27 rfl) (hb.n 7 4 rfl) (by omega) (by omega) (hb.ro 7 8 4 1 rfl b (by omega)) dX1_taxOn_89 ?_
                  refine r_iload C 5 dX1_taxOn_90 rfl ?_
                  refine r_ialoadN C (hb.ko 8 20 4 rfl b (by omega)) (hb.no 8 24 4 rfl b (by omega)) (by omega) (by omega) dX1_taxOn_92 ?_
                  refine V.ei (y := nI (un τ 35 (4 * (at_ + k) + b))) ((hpa b (by omega) k (by omega)).trans (hw.bt (at_ + k) b (by omega) (by omega)).1) ?_
                  refine r_i2lN C (by omega) dX1_taxOn_93 ?_
                  refine r_lmul C dX1_taxOn_94 ?_
                  refine r_ldc2 C (v := 1000) kl_X1_32 dX1_taxOn_95 ?_
                  refine V.el (y := lN 1000) (by decide) ?_
                  refine r_ldiv C dX1_taxOn_98 (by decide) ?_
                  refine r_ladd C dX1_taxOn_99 ?_
                  refine r_lstore C (lo' := [(5, .long ((yrS τ (at_ + k) x b) + (((pzL (mnL x (lN (un τ 34 (4 * (at_ + k) + b))) - lN (yrLow τ (at_ + k) b))) * (lN (un τ 35 (4 * (at_ + k) + b)))) / (lN 1000)))), (12, .long (pzL (mnL x (lN (un τ 34 (4 * (at_ + k) + b))) - lN (yrLow τ (at_ + k) b)))), (10, .long (lN (un τ 34 (4 * (at_ + k) + b)))), (0, .ref (f 0)), (1, .long x), (3, .int (nI m)), (4, .int (nI k)), (7, .long (lN (yrLow τ (at_ + k) b))), (9, .int (nI b))]) dX1_taxOn_100 (by decide) rfl ?_
                  refine r_lload C 2 dX1_taxOn_102 rfl ?_
                  refine r_lstore C (lo' := [(7, .long (lN (un τ 34 (4 * (at_ + k) + b)))), (5, .long ((yrS τ (at_ + k) x b) + (((pzL (mnL x (lN (un τ 34 (4 * (at_ + k) + b))) - lN (yrLow τ (at_ + k) b))) * (lN (un τ 35 (4 * (at_ + k) + b)))) / (lN 1000)))), (12, .long (pzL (mnL x (lN (un τ 34 (4 * (at_ + k) + b))) - lN (yrLow τ (at_ + k) b)))), (10, .long (lN (un τ 34 (4 * (at_ + k) + b)))), (0, .ref (f 0)), (1, .long x), (3, .int (nI m)), (4, .int (nI k)), (9, .int (nI b))]) dX1_taxOn_104 (by decide) rfl ?_
                  refine r_iinc C (v := nI (b + 1)) (lo' := [(9, .int (nI (b + 1))), (7, .long (lN (un τ 34 (4 * (at_ + k) + b)))), (5, .long ((yrS τ (at_ + k) x b) + (((pzL (mnL x (lN (un τ 34 (4 * (at_ + k) + b))) - lN (yrLow τ (at_ + k) b))) * (lN (un τ 35 (4 * (at_ + k) + b)))) / (lN 1000)))), (12, .long (pzL (mnL x (lN (un τ 34 (4 * (at_ + k) + b))) - lN (yrLow τ (at_ + k) b)))), (10, .long (lN (un τ 34 (4 * (at_ + k) + b)))), (0, .ref (f 0)), (1, .long x), (3, .int (nI m)), (4, .int (nI k))]) 8 dX1_taxOn_106 rfl (nI_addI b 1) (by decide) rfl ?_
                  refine r_goto C (t := 33) dX1_taxOn_109 (by decide) ?_
                  have jb5 : ((yrS τ (at_ + k) x b) + (((pzL (mnL x (lN (un τ 34 (4 * (at_ + k) + b))) - lN (yrLow τ (at_ + k) b))) * (lN (un τ 35 (4 * (at_ + k) + b)))) / (lN 1000))) = (yrS τ (at_ + k) x (b + 1)) := by show _ = yrS τ (at_ + k) x b + yrT τ (at_ + k) b x; rw [yr_T]
                  refine V.eLo (lo' := [(9, .int (nI (b + 1))), (7, .long (lN (un τ 34 (4 * (at_ + k) + b)))), (5, .long (yrS τ (at_ + k) x (b + 1))), (12, .long (pzL (mnL x (lN (un τ 34 (4 * (at_ + k) + b))) - lN (yrLow τ (at_ + k) b)))), (10, .long (lN (un τ 34 (4 * (at_ + k) + b)))), (0, .ref (f 0)), (1, .long x), (3, .int (nI m)), (4, .int (nI k))]) (congrArg (fun z_ => ([(9, .int (nI (b + 1))), (7, .long (lN (un τ 34 (4 * (at_ + k) + b)))), (5, .long z_), (12, .long (pzL (mnL x (lN (un τ 34 (4 * (at_ + k) + b))) - lN (yrLow τ (at_ + k) b)))), (10, .long (lN (un τ 34 (4 * (at_ + k) + b)))), (0, .ref (f 0)), (1, .long x), (3, .int (nI m)), (4, .int (nI k))] : List (Nat × Value))) jb5) ?_
                  have jb7 : (un τ 34 (4 * (at_ + k) + b)) = (yrLow τ (at_ + k) (b + 1)) := by rfl
                  refine V.eLo (lo' := [(9, .int (nI (b + 1))), (7, .long (lN (yrLow τ (at_ + k) (b + 1)))), (5, .long (yrS τ (at_ + k) x (b + 1))), (12, .long (pzL (mnL x (lN (un τ 34 (4 * (at_ + k) + b))) - lN (yrLow τ (at_ + k) b)))), (10, .long (lN (un τ 34 (4 * (at_ + k) + b)))), (0, .ref (f 0)), (1, .long x), (3, .int (nI m)), (4, .int (nI k))]) (congrArg (fun z_ => ([(9, .int (nI (b + 1))), (7, .long (lN z_)), (5, .long (yrS τ (at_ + k) x (b + 1))), (12, .long (pzL (mnL x (lN (un τ 34 (4 * (at_ + k) + b))) - lN (yrLow τ (at_ + k) b)))), (10, .long (lN (un τ 34 (4 * (at_ + k) + b)))), (0, .ref (f 0)), (1, .long x), (3, .int (nI m)), (4, .int (nI k))] : List (Nat × Value))) jb7) ?_
                  refine V.sub [5, 6, 7, 8, 2, 1, 0] (lo' := [(0, .ref (f 0)), (1, .long x), (3, .int (nI m)), (4, .int (nI k)), (5, .long (yrS τ (at_ + k) x (b + 1))), (7, .long (lN (yrLow τ (at_ + k) (b + 1)))), (9, .int (nI (b + 1)))]) rfl ?_
                  exact ih33 (b + 1) (by omega) (by omega)
          refine V.sub [3, 4, 5, 6, 2, 1, 0] (lo' := [(0, .ref (f 0)), (1, .long x), (3, .int (nI m)), (4, .int (nI k)), (5, .long (lN 0)), (7, .long (lN 0)), (9, .int (nI 0))]) rfl ?_
          exact lp33 _ 0 (Nat.zero_le _) (Nat.lt_succ_self _)
        · skip
          refine r_iinc C (v := nI (k - 1)) (lo' := [(4, .int (nI (k - 1))), (0, .ref (f 0)), (1, .long x), (3, .int (nI m))]) 3 dX1_taxOn_18 rfl (nI_m1 (by omega)) (by decide) rfl ?_
          refine r_goto C (t := 3) dX1_taxOn_21 (by decide) ?_
          refine V.sub [1, 2, 3, 0] (lo' := [(0, .ref (f 0)), (1, .long x), (3, .int (nI m)), (4, .int (nI (k - 1)))]) rfl ?_
          exact ih3 (k - 1) (by omega) (fun j a b => by by_cases e : j = k; (subst e; exact c15); exact hno j (by omega) b) (by omega)
  refine V.sub [1, 2, 3, 0] (lo' := [(0, .ref (f 0)), (1, .long x), (3, .int (nI m)), (4, .int (nI m))]) rfl ?_
  exact lp3 _ m (Nat.le_refl _) (fun j a b => absurd a (by omega)) (Nat.lt_succ_self _)

