/-! THE CLASS: refreshContracts -/
/-- what a refresh of the contracts may change -/
def CoA (nc : Nat) (fc : Nat → Nat → Nat) (a : Nat) : Prop := ∃ i, i < nc ∧ (a = fc i 0 ∨ a = fc i 9 ∨ a = fc i 7 ∨ a = fc i 8)
/-- the contracts' blocks lie apart -/
def CoX (nc : Nat) (fc : Nat → Nat → Nat) : Prop := ∀ i j, i < nc → j < nc → i ≠ j → ∀ o r, o < 10 → r < 10 → fc i o ≠ fc j r
theorem CoA.no {nc : Nat} {fc : Nat → Nat → Nat} {a : Nat} (h : ∀ i, i < nc → ∀ o, o < 10 → fc i o ≠ a) : ¬ CoA nc fc a := by
  rintro ⟨i, hi, z | z | z | z⟩
  · exact h i hi 0 (by decide) z.symm
  · exact h i hi 9 (by decide) z.symm
  · exact h i hi 7 (by decide) z.symm
  · exact h i hi 8 (by decide) z.symm
theorem CoA.in' {nc : Nat} {fc : Nat → Nat → Nat} {M : Mem} (hx : CoX nc fc) (hb : ∀ i, i < nc → Blk tbCo (mK M) (mN M) (mR M) (fc i)) {i o : Nat} (hi : i < nc) (ho : 0 < o ∧ o < 7) : ¬ CoA nc fc (fc i o) := by
  rintro ⟨j, hj, z⟩
  by_cases e : i = j
  · subst e
    rcases z with z | z | z | z
    · exact (hb i hi).neq (show o < 10 by omega) (show 0 < 10 by decide) (by omega) z
    · exact (hb i hi).neq (show o < 10 by omega) (show 9 < 10 by decide) (by omega) z
    · exact (hb i hi).neq (show o < 10 by omega) (show 7 < 10 by decide) (by omega) z
    · exact (hb i hi).neq (show o < 10 by omega) (show 8 < 10 by decide) (by omega) z
  · rcases z with z | z | z | z
    · exact hx i j hi hj e o 0 (by omega) (by decide) z
    · exact hx i j hi hj e o 9 (by omega) (by decide) z
    · exact hx i j hi hj e o 7 (by omega) (by decide) z
    · exact hx i j hi hj e o 8 (by omega) (by decide) z
/-- the contracts are fresh but for the pay of leave, which is F -/
def CoD (τ : Mu) (nc : Nat) (cn : Nat → Nat) (fc : Nat → Nat → Nat) (M M' : Mem) (F : Nat → Nat → Nat) : Prop := frm (CoA nc fc) M M' ∧ (∀ i, i < nc → ∀ k, k ≠ 11 → mI M' (fc i 0) k = mI M (fc i 0) k) ∧ ∀ i, i < nc → mI M' (fc i 0) 11 = 0 ∧ CoW τ (cn i) (mI M') (mL M') (fc i) ∧ ∀ x, x < 24 → mL M' (fc i 9) x = lN (F i x)
/-- behind i refreshes -/
def RCi (τ : Mu) (nc : Nat) (cn : Nat → Nat) (fc : Nat → Nat → Nat) (M : Mem) (i : Nat) (M1 : Mem) : Prop := frm (CoA nc fc) M M1 ∧ (∀ j, j < nc → ∀ k, k ≠ 11 → mI M1 (fc j 0) k = mI M (fc j 0) k) ∧ (∀ j, j < i → mI M1 (fc j 0) 11 = 0 ∧ CoW τ (cn j) (mI M1) (mL M1) (fc j) ∧ ∀ x, x < 24 → mL M1 (fc j 9) x = lN 0) ∧ ∀ j, i ≤ j → j < nc → mI M1 (fc j 0) 11 = 0 → CoW τ (cn j) (mI M1) (mL M1) (fc j)
theorem CoW.fr {τ : Mu} {c : Nat} {A : Nat → Prop} {M M' : Mem} {f : Nat → Nat} (h : CoW τ c (mI M) (mL M) f) (g : frm A M M') (h7 : ¬ A (f 7)) (h8 : ¬ A (f 8)) : CoW τ c (mI M') (mL M') f := fun m hm => by rw [g.l h7, g.i h8]; exact h m hm
theorem RCi.step {τ : Mu} {nc : Nat} {cn : Nat → Nat} {fc : Nat → Nat → Nat} {M M1 M2 : Mem} {i : Nat} (hx : CoX nc fc) (h : RCi τ nc cn fc M i M1) (hi : i < nc) (hf : frm (fun a => a = fc i 0 ∨ a = fc i 9 ∨ a = fc i 7 ∨ a = fc i 8) M1 M2) (h0 : ∀ k, k ≠ 11 → mI M2 (fc i 0) k = mI M1 (fc i 0) k) (h1 : mI M2 (fc i 0) 11 = 0) (h9 : ∀ x, x < 24 → mL M2 (fc i 9) x = lN 0) (hc : CoW τ (cn i) (mI M2) (mL M2) (fc i)) : RCi τ nc cn fc M (i + 1) M2 := by
  obtain ⟨a1, a2, a3, a4⟩ := h
  have off : ∀ j, j < nc → j ≠ i → ∀ o, o < 10 → ¬ (fc j o = fc i 0 ∨ fc j o = fc i 9 ∨ fc j o = fc i 7 ∨ fc j o = fc i 8) := fun j hj e o ho z => by
    rcases z with z | z | z | z
    · exact hx j i hj hi e o 0 ho (by decide) z
    · exact hx j i hj hi e o 9 ho (by decide) z
    · exact hx j i hj hi e o 7 ho (by decide) z
    · exact hx j i hj hi e o 8 ho (by decide) z
  refine ⟨a1.tr (hf.mono (fun a z => ⟨i, hi, z⟩)), fun j hj k hk => ?_, fun j hj => ?_, fun j hj hj2 z => ?_⟩
  · by_cases e : j = i
    · subst e; exact (h0 k hk).trans (a2 j hj k hk)
    · exact (congrFun (hf.i (off j hj e 0 (by decide))) k).trans (a2 j hj k hk)
  · by_cases e : j = i
    · subst e; exact ⟨h1, hc, h9⟩
    · obtain ⟨b1, b2, b3⟩ := a3 j (by omega)
      refine ⟨(congrFun (hf.i (off j (by omega) e 0 (by decide))) 11).trans b1, b2.fr hf (off j (by omega) e 7 (by decide)) (off j (by omega) e 8 (by decide)), fun x hx' => ?_⟩
      exact (congrFun (hf.l (off j (by omega) e 9 (by decide))) x).trans (b3 x hx')
  · exact (a4 j (by omega) hj2 ((congrFun (hf.i (off j hj2 (by omega) 0 (by decide))) 11).symm.trans z)).fr hf (off j hj2 (by omega) 7 (by decide)) (off j hj2 (by omega) 8 (by decide))
/-- leave's pay behind j leaves -/
def lvS (τ : Mu) (cn ln : Nat → Nat) (j i x : Nat) : Nat := sumN (fun y => leaveP τ (ltN τ) (cn i) x (ln y)) 0 j
theorem CoD.skip {τ : Mu} {nc : Nat} {cn ln : Nat → Nat} {fc : Nat → Nat → Nat} {M M1 : Mem} {j : Nat} (h : CoD τ nc cn fc M M1 (lvS τ cn ln j)) (hz : ∀ i, i < nc → ∀ x, leaveP τ (ltN τ) (cn i) x (ln j) = 0) : CoD τ nc cn fc M M1 (lvS τ cn ln (j + 1)) := by
  refine ⟨h.1, h.2.1, fun i hi => ⟨(h.2.2 i hi).1, (h.2.2 i hi).2.1, fun x hx => ?_⟩⟩
  rw [(h.2.2 i hi).2.2 x hx]
  unfold lvS
  rw [sumN_1, hz i hi x, Nat.add_zero]
theorem CoD.put {τ : Mu} {nc : Nat} {cn ln : Nat → Nat} {fc : Nat → Nat → Nat} {M M1 : Mem} {j e d v : Nat} (hx : CoX nc fc) (hb : ∀ i, i < nc → Blk tbCo (mK M1) (mN M1) (mR M1) (fc i)) (hinj : ∀ i i', i < nc → i' < nc → cn i = cn i' → i = i') (h : CoD τ nc cn fc M M1 (lvS τ cn ln j)) (he : e < nc)
    (hv : ∀ x, leaveP τ (ltN τ) (cn e) x (ln j) = if x = d then v else 0) (hc : cn e = un τ 14 (ln j)) : CoD τ nc cn fc M (wL M1 (fc e 9) d (lN (lvS τ cn ln j e d + v))) (lvS τ cn ln (j + 1)) := by
  refine ⟨h.1.wl _ _ ⟨e, he, .inr (.inl rfl)⟩, h.2.1, fun i hi => ⟨(h.2.2 i hi).1, fun m hm => ⟨?_, ((h.2.2 i hi).2.1 m hm).2⟩, fun x hx' => ?_⟩⟩
  · refine (congrFun (wL_a (fun z => ?_)) m).trans ((h.2.2 i hi).2.1 m hm).1
    by_cases q : i = e
    · subst q; exact (hb i hi).ne 7 9 rfl z
    · exact hx i e hi he q 7 9 (by decide) (by decide) z
  · by_cases q : i = e
    · subst q
      unfold lvS
      rw [sumN_1, hv x]
      by_cases w : x = d
      · subst w; rw [if_pos rfl]; exact wL_i
      · rw [if_neg w, Nat.add_zero]; exact (wL_k w).trans ((h.2.2 i hi).2.2 x hx')
    · refine (congrFun (wL_a (hx i e hi he q 9 9 (by decide) (by decide))) x).trans ?_
      rw [(h.2.2 i hi).2.2 x hx']
      unfold lvS
      rw [sumN_1]
      unfold leaveP
      rw [if_neg (fun z => q (hinj i e hi he (z.1.symm.trans hc.symm))), Nat.add_zero]
theorem lp_0 {τ : Mu} {c x k : Nat} (h : ltN τ k = 0) : leaveP τ (ltN τ) c x k = 0 := if_neg fun z => by rw [h] at z; exact absurd z.2.1 (by decide)
theorem lp_h {τ : Mu} {c c' x k : Nat} (h : ¬ un τ 4 c = 1) (hc : c = un τ 14 k) : leaveP τ (ltN τ) c' x k = 0 := if_neg fun z => h (by rw [hc, z.1]; exact z.2.2.2)
theorem lp_v {τ : Mu} (hw : WF τ) {c x k : Nat} (hk : k < un τ 17 17) (h1 : ltN τ k = 1) (h4 : un τ 4 c = 1) (hc : c = un τ 14 k) : leaveP τ (ltN τ) c x k = if x = un τ 15 k / 30 then rN (un τ 5 c * pyC τ c (un τ 15 k)) 60 else 0 := by
  unfold leaveP
  rw [pyC_D (by rw [hc]; exact (hw.ld k hk).2.1)]
  by_cases e : x = un τ 15 k / 30
  · rw [if_pos e, if_pos ⟨hc.symm, h1, e.symm, h4⟩]
  · rw [if_neg e, if_neg (fun z => e z.2.2.1.symm)]
theorem sumN_up {F : Nat → Nat} {x : Nat} : ∀ {n : Nat}, x < n → sumN F 0 n = sumN (fun k => if k = x then 0 else F k) 0 n + F x
  | 0, h => absurd h (Nat.not_lt_zero _)
  | n + 1, h => by
    rw [sumN_1, sumN_1]
    by_cases e : n = x
    · subst e
      rw [if_pos rfl, sumN_congr (f := fun k => if k = n then 0 else F k) (g := F) (fun i hi => if_neg (show ¬ 0 + i = n by omega))]
      omega
    · rw [if_neg e, sumN_up (n := n) (x := x) (by omega)]
      omega
theorem sumN_z {F : Nat → Nat} : ∀ {n : Nat}, (∀ k, k < n → F k = 0) → sumN F 0 n = 0
  | 0, _ => rfl
  | n + 1, h => by rw [sumN_1, h n (by omega), sumN_z (fun k hk => h k (by omega))]
/-- a sum by another order -/
theorem sumN_pm {g : Nat → Nat} {n : Nat} : ∀ {nl : Nat} {F : Nat → Nat}, (∀ i, i < nl → g i < n) → (∀ i j, i < j → j < nl → g i ≠ g j) → (∀ k, k < n → (∀ i, i < nl → g i ≠ k) → F k = 0) → sumN F 0 n = sumN (fun i => F (g i)) 0 nl
  | 0, F, _, _, h3 => sumN_z fun k hk => h3 k hk (fun i hi => absurd hi (Nat.not_lt_zero _))
  | nl + 1, F, h1, h2, h3 => by
    rw [sumN_1, sumN_up (h1 nl (by omega)), sumN_pm (nl := nl) (F := fun k => if k = g nl then 0 else F k) (fun i hi => h1 i (by omega)) (fun i j a b => h2 i j a (by omega)) (fun k hk hn => ?_)]
    · rw [sumN_congr (g := fun i => F (g i)) (fun i hi => if_neg (by rw [Nat.zero_add]; exact h2 i nl hi (by omega)))]
    · show (if k = g nl then 0 else F k) = 0
      by_cases e : k = g nl
      · rw [if_pos e]
      · rw [if_neg e]
        refine h3 k hk (fun i hi z => ?_)
        by_cases q : i = nl
        · subst q; exact e z.symm
        · exact hn i (by omega) z
theorem lvS_end {τ : Mu} {p nl nc : Nat} {cn ln : Nat → Nat} (hl : EnL τ p nl ln) (hc : EnN (fun c => un τ 0 c = p) (un τ 9 9) nc cn) {i x : Nat} (hi : i < nc) : lvS τ cn ln nl i x = sumN (leaveP τ (ltN τ) (cn i) x) 0 (un τ 17 17) := by
  refine (sumN_pm (F := leaveP τ (ltN τ) (cn i) x) (g := ln) (fun i hi => (hl.1 i hi).1) (fun i j h1 h2 e => ?_) (fun k hk hn => if_neg (fun z => ?_))).symm
  · rcases hl.2.1 i j h1 h2 with q | q
    · rw [e] at q; omega
    · omega
  · obtain ⟨j, hj, ej⟩ := hl.2.2 k hk (by rw [z.1]; exact (hc.1 i hi).2)
    exact hn j hj ej
theorem EnN.inj {P : Nat → Prop} {n nc : Nat} {cn : Nat → Nat} (h : EnN P n nc cn) : ∀ i j, i < nc → j < nc → cn i = cn j → i = j := fun i j hi hj e => by
  rcases Nat.lt_trichotomy i j with q | q | q
  · have := h.2.1 i j q hj; omega
  · exact q
  · have := h.2.1 j i q hi; omega
set_option maxHeartbeats 1000000 in
set_option maxRecDepth 100000 in
theorem c_X8_refreshContracts (l : Launch) (hfl : l.flags = flags0) (G : gW) (M : Mem) (h : Nat → Nat) (hb : Blk tbPe (mK M) (mN M) (mR M) h) (τ : Mu) (hw : WF τ) (p : Nat) (nc : Nat) (cn : Nat → Nat) (fc : Nat → Nat → Nat) (hpc : PcL τ p G M h nc cn fc) (nl : Nat) (ln la : Nat → Nat) (hpl : PlL τ p G M h nl ln la) (hdj : ∀ a, LaA nl la a → a ≠ h 1 ∧ a ≠ h 2 ∧ ∀ i, i < nc → ∀ o, o < 10 → a ≠ fc i o) (hdx : CoX nc fc) (hdh : ∀ i, i < nc → ∀ o, o < 10 → fc i o ≠ h 1 ∧ fc i o ≠ h 2 ∧ ∀ j, j < nl → fc i o ≠ la j) (hlc : ∀ j, j < nl → ∃ i, i < nc ∧ mR M (la j) 0 = some (fc i 0) ∧ cn i = un τ 14 (ln j)) (hlt : ∀ j, j < nl → mI M (la j) 2 = nI (ltN τ (ln j))) (hsc : ∀ i, i < nc → mI M (fc i 0) 11 = 0 → CoW τ (cn i) (mI M) (mL M) (fc i)) : CT l yX8_refreshContracts cX8_refreshContracts 4 none 5 0 0 122 G M [.ref (h 0)] (fun v M' => v = none ∧ CoD τ nc cn fc M M' (fun i x => sumN (leaveP τ (ltN τ) (cn i) x) 0 (un τ 17 17))) := by
  refine CT.of hfl rfl (Nat.le_of_ble_eq_true rfl) ?_
  intro pp ee ss mm ar bw mt cd C hgX hr hini
  have hbO := hb
  have h9 := hw.nc.2
  have hncl := hpc.2.1.le
  have hnll := hpl.2.1.le hw
  refine V.eLo (lo' := [(0, .ref (h 0))]) rfl ?_
  refine r_iconst C (v := nI 0) dX8_refreshContracts_0 (by decide) ?_
  refine r_istore_n C (lo' := [(1, .int (nI 0)), (0, .ref (h 0))]) dX8_refreshContracts_1 rfl (by decide) rfl ?_
  have lp2 : ∀ (k2 : Nat) (M1 : Mem) (i : Nat) (hi : i ≤ nc) (hrc : RCi τ nc cn fc M i M1), nc + 1 - i < k2 → V pp l ee ({ frames := 5, cells := 0, slots := 0, locals := 122 } : Room) ss mm ar bw mt cd G (MQ bw (Ke G (fun v M' => v = none ∧ CoD τ nc cn fc M M' (fun i x => sumN (leaveP τ (ltN τ) (cn i) x) 0 (un τ 17 17)))) ar ss 0 0 (gA G)) 4 M1 0 0 2 [(0, .ref (h 0)), (1, .int (nI i))] [] := by
    intro k2
    induction k2 with
    | zero => intro M1 i hi hrc hz2; exact absurd hz2 (Nat.not_lt_zero _)
    | succ k2 ih2 =>
      intro M1 i hi hrc hz2
      have hb := hbO |> hrc.1.blk
      have hpc1 : LI G M1 5 (h 1) nc (fun i => fc i 0) := hpc.1.fr hrc.1 (CoA.no (fun i hi o ho => (hdh i hi o ho).1))
      have hpb : ∀ i, i < nc → Blk tbCo (mK M1) (mN M1) (mR M1) (fc i) := fun i hi => hrc.1.blk (hpc.2.2 i hi).1
      refine r_iload_n C 1 dX8_refreshContracts_2 rfl rfl ?_
      refine r_aload_n C 0 dX8_refreshContracts_3 rfl rfl ?_
      refine r_getR C (b := (h 1)) fl_X8_12 rfl (hb.k 0 11 rfl) (hb.r 0 1 1 rfl) dX8_refreshContracts_4 ?_
      refine r_callV C hgX (ci := 2) ml_X8_56 im_Jx4a65c_size_8abf5 se_Jx4a65c_size_8abf5 rfl rfl (hb.k 1 3 rfl) (c_Jx4a65c_size_8abf5 l hfl G M1 (h 1) nc (hpc1).1 (hpc1).2.1) rfl (Nat.le_of_ble_eq_true rfl) ⟨Nat.le_of_ble_eq_true rfl, Nat.le_of_ble_eq_true rfl⟩ ⟨Nat.le_of_ble_eq_true rfl, Nat.le_of_ble_eq_true rfl⟩ dX8_refreshContracts_7 rfl ?_
      rintro _ _ ⟨rfl, rfl⟩
      refine V.eSt (st' := [.int (nI nc), .int (nI i)]) rfl ?_
      refine r_icmp_geN C (t := 33) (by omega) (by omega) dX8_refreshContracts_10 (by decide) (fun c10 => ?_) (fun c10 => ?_)
      · skip
        have ei : nc = i := by omega
        subst ei
        refine r_iconst C (v := nI 0) dX8_refreshContracts_33 (by decide) ?_
        refine r_istore_n C (lo' := [(1, .int (nI 0)), (0, .ref (h 0))]) dX8_refreshContracts_34 rfl (by decide) rfl ?_
        have lp35 : ∀ (k35 : Nat) (M5 : Mem) (j : Nat) (hj : j ≤ nl) (hcd : CoD τ nc cn fc M M5 (lvS τ cn ln j)), nl + 1 - j < k35 → V pp l ee ({ frames := 5, cells := 0, slots := 0, locals := 122 } : Room) ss mm ar bw mt cd G (MQ bw (Ke G (fun v M' => v = none ∧ CoD τ nc cn fc M M' (fun i x => sumN (leaveP τ (ltN τ) (cn i) x) 0 (un τ 17 17)))) ar ss 0 0 (gA G)) 4 M5 0 0 35 [(0, .ref (h 0)), (1, .int (nI j))] [] := by
          intro k35
          induction k35 with
          | zero => intro M5 j hj hcd hz35; exact absurd hz35 (Nat.not_lt_zero _)
          | succ k35 ih35 =>
            intro M5 j hj hcd hz35
            have hb := hbO |> hcd.1.blk
            have hpc1 : LI G M5 5 (h 1) nc (fun i => fc i 0) := hpc.1.fr hcd.1 (CoA.no (fun i hi o ho => (hdh i hi o ho).1))
            have hpb : ∀ i, i < nc → Blk tbCo (mK M5) (mN M5) (mR M5) (fc i) := fun i hi => hcd.1.blk (hpc.2.2 i hi).1
            have hpl1 : LI G M5 8 (h 2) nl la := hpl.1.fr hcd.1 (CoA.no (fun i hi o ho => (hdh i hi o ho).2.1))
            have hlaI : ∀ j, j < nl → mI M5 (la j) = mI M (la j) := fun j hj => hcd.1.i (CoA.no (fun i hi o ho => (hdh i hi o ho).2.2 j hj))
            have hla1 : ∀ j, j < nl → mI M5 (la j) 1 = nI (un τ 15 (ln j)) := fun j hj => (congrFun (hlaI j hj) 1).trans (hpl.2.2.1 j hj)
            have hla2 : ∀ j, j < nl → mI M5 (la j) 2 = nI (ltN τ (ln j)) := fun j hj => (congrFun (hlaI j hj) 2).trans (hlt j hj)
            have hlak : ∀ j, j < nl → mK M5 (la j) = 8 + 1 := fun j hj => hpl1.2.2.1 j hj
            refine r_iload_n C 1 dX8_refreshContracts_35 rfl rfl ?_
            refine r_aload_n C 0 dX8_refreshContracts_36 rfl rfl ?_
            refine r_getR C (b := (h 2)) fl_X8_18 rfl (hb.k 0 11 rfl) (hb.r 0 2 2 rfl) dX8_refreshContracts_37 ?_
            refine r_callV C hgX (ci := 2) ml_X8_56 im_Jx4a65c_size_8abf5 se_Jx4a65c_size_8abf5 rfl rfl (hb.k 2 3 rfl) (c_Jx4a65c_size_8abf5 l hfl G M5 (h 2) nl (hpl1).1 (hpl1).2.1) rfl (Nat.le_of_ble_eq_true rfl) ⟨Nat.le_of_ble_eq_true rfl, Nat.le_of_ble_eq_true rfl⟩ ⟨Nat.le_of_ble_eq_true rfl, Nat.le_of_ble_eq_true rfl⟩ dX8_refreshContracts_40 rfl ?_
            rintro _ _ ⟨rfl, rfl⟩
            refine V.eSt (st' := [.int (nI nl), .int (nI j)]) rfl ?_
            refine r_icmp_geN C (t := 119) (by omega) (by omega) dX8_refreshContracts_43 (by decide) (fun c43 => ?_) (fun c43 => ?_)
            · skip
              have ej : nl = j := by omega
              subst ej
              exact r_vret C hr (⟨rfl, hcd.1, hcd.2.1, fun i hi => ⟨(hcd.2.2 i hi).1, (hcd.2.2 i hi).2.1, fun x hx => ((hcd.2.2 i hi).2.2 x hx).trans (congrArg lN (lvS_end hpl.2.1 hpc.2.1 hi))⟩⟩) (by first | exact Nat.zero_le _ | decide) (by first | exact Nat.zero_le _ | decide) dX8_refreshContracts_119
            · skip
              obtain ⟨e, he, hlr, hce⟩ := hlc j (by omega)
              have hle : mR M5 (la j) 0 = some (fc e 0) := by rw [hcd.1.2.2.1]; exact hlr
              have hbe := hpb e he
              have hfe := (hpc.2.2 e (by omega)).2.fr hcd.1 (fun k hk => hcd.2.1 e (by omega) k (by omega)) (CoA.in' hdx (fun i hi => (hpc.2.2 i hi).1) (by omega) (by decide)) (CoA.in' hdx (fun i hi => (hpc.2.2 i hi).1) (by omega) (by decide))
              have hlj := hpl.2.1.1 j (by omega)
              have hld := (hw.ld (ln j) hlj.1).1.2
              have hec := (hpc.2.1.1 e he).1
              have hpy_ := pyC_le hw (d := un τ 15 (ln j)) hec
              have hn5 := (hw.cn (cn e) hec).2
              have hbx : un τ 5 (cn e) * pyC τ (cn e) (un τ 15 (ln j)) ≤ 600 * 1000000 := Nat.mul_le_mul hn5 hpy_
              have hltl := ltN_le τ (ln j)
              refine r_aload_n C 0 dX8_refreshContracts_46 rfl rfl ?_
              refine r_getR C (b := (h 2)) fl_X8_18 rfl (hb.k 0 11 rfl) (hb.r 0 2 2 rfl) dX8_refreshContracts_47 ?_
              refine r_iload_n C 1 dX8_refreshContracts_50 rfl rfl ?_
              obtain ⟨d_b, hd_b, hkd_b, hsn_b, hn_b, hri_b⟩ := (hpl1).get (i := j) (by omega)
              refine r_callV C hgX (ci := 2) ml_X8_60 im_Jx4a65c_get_915e3 se_Jx4a65c_get_915e3 rfl rfl (hb.k 2 3 rfl) (c_Jx4a65c_get_915e3 l hfl G M5 (h 2) d_b _ j (la j) nl (hpl1).1 hd_b (hpl1).2.1 hkd_b rfl hn_b hsn_b (by omega) hri_b) rfl (Nat.le_of_ble_eq_true rfl) ⟨Nat.le_of_ble_eq_true rfl, Nat.le_of_ble_eq_true rfl⟩ ⟨Nat.le_of_ble_eq_true rfl, Nat.le_of_ble_eq_true rfl⟩ dX8_refreshContracts_51 rfl ?_
              rintro _ _ ⟨rfl, rfl⟩
              refine V.eSt (st' := [.ref (la j)]) rfl ?_
              refine r_cast C (ci := 8) rfl cl_X8_70 ((hlak j (by omega))) dX8_refreshContracts_54 ?_
              refine r_astore_n C (lo' := [(2, .ref (la j)), (0, .ref (h 0)), (1, .int (nI j))]) dX8_refreshContracts_57 rfl (by decide) rfl ?_
              refine r_aload_n C 0 dX8_refreshContracts_58 rfl rfl ?_
              refine r_getR C (b := (fc e 0)) fl_X8_100 rfl (hlak j (by omega)) hle dX8_refreshContracts_59 ?_
              refine r_astore_n C (lo' := [(3, .ref (fc e 0)), (2, .ref (la j)), (0, .ref (h 0)), (1, .int (nI j))]) dX8_refreshContracts_62 rfl (by decide) rfl ?_
              refine r_aload_n C 1 dX8_refreshContracts_63 rfl rfl ?_
              refine r_getI C fl_X8_93 rfl (hlak j (by omega)) dX8_refreshContracts_64 ?_
              refine V.ei (y := nI (ltN τ (ln j))) (hla2 j (by omega)) ?_
              refine r_if_eqN C (t := 113) (by omega) dX8_refreshContracts_67 (by decide) (fun c67 => ?_) (fun c67 => ?_)
              · skip
                have hcd2 := hcd.skip (fun i hi x => lp_0 (by omega))
                refine r_iinc C (v := nI (j + 1)) (lo' := [(1, .int (nI (j + 1))), (3, .ref (fc e 0)), (2, .ref (la j)), (0, .ref (h 0))]) 3 dX8_refreshContracts_113 rfl (nI_addI j 1) (by decide) rfl ?_
                refine r_goto C (t := 35) dX8_refreshContracts_116 (by decide) ?_
                refine V.sub [3, 0] (lo' := [(0, .ref (h 0)), (1, .int (nI (j + 1)))]) rfl ?_
                exact ih35 M5 (j + 1) (by omega) hcd2 (by omega)
              · skip
                refine r_aload_n C 0 dX8_refreshContracts_70 rfl rfl ?_
                refine r_getI C fl_X8_104 rfl (hbe.k 0 6 rfl) dX8_refreshContracts_71 ?_
                refine V.ei (y := bI (decide (un τ 4 (cn e) = 1))) (hfe.2.2.2.2.1) ?_
                refine r_if_eqB C (t := 113) dX8_refreshContracts_74 (by decide) (fun c74 => ?_) (fun c74 => ?_)
                · skip
                  have c74d := of_decide_eq_false c74
                  have hcd2 := hcd.skip (fun i hi x => lp_h (of_decide_eq_false c74) hce)
                  refine r_iinc C (v := nI (j + 1)) (lo' := [(1, .int (nI (j + 1))), (3, .ref (fc e 0)), (2, .ref (la j)), (0, .ref (h 0))]) 3 dX8_refreshContracts_113 rfl (nI_addI j 1) (by decide) rfl ?_
                  refine r_goto C (t := 35) dX8_refreshContracts_116 (by decide) ?_
                  refine V.sub [3, 0] (lo' := [(0, .ref (h 0)), (1, .int (nI (j + 1)))]) rfl ?_
                  exact ih35 M5 (j + 1) (by omega) hcd2 (by omega)
                · skip
                  have c74d := of_decide_eq_true c74
                  refine r_aload_n C 0 dX8_refreshContracts_77 rfl rfl ?_
                  refine r_getR C (b := (fc e 9)) fl_X8_107 rfl (hbe.k 0 6 rfl) (hbe.r 0 14 9 rfl) dX8_refreshContracts_78 ?_
                  refine r_aload_n C 1 dX8_refreshContracts_81 rfl rfl ?_
                  refine r_getI C fl_X8_72 rfl (hlak j (by omega)) dX8_refreshContracts_82 ?_
                  refine V.ei (y := nI (un τ 15 (ln j))) (hla1 j (by omega)) ?_
                  refine r_bipush C (v := nI 30) dX8_refreshContracts_85 (by decide) ?_
                  refine r_idivN C (by omega) (by omega) (by omega) dX8_refreshContracts_87 ?_
                  refine r_dup2 C dX8_refreshContracts_88 rfl rfl ?_
                  refine r_laloadN C (hbe.k 9 21 rfl) (hbe.n 9 24 rfl) (by omega) (by omega) dX8_refreshContracts_89 ?_
                  refine V.el (y := lN (lvS τ cn ln j e (un τ 15 (ln j) / 30))) ((hcd.2.2 e he).2.2 _ (by omega)) ?_
                  refine r_aload_n C 0 dX8_refreshContracts_90 rfl rfl ?_
                  refine r_getI C fl_X8_110 rfl (hbe.k 0 6 rfl) dX8_refreshContracts_91 ?_
                  refine V.ei (y := nI (un τ 5 (cn e))) (hfe.2.2.2.2.2.1) ?_
                  refine r_i2lN C (by omega) dX8_refreshContracts_94 ?_
                  refine r_aload_n C 0 dX8_refreshContracts_95 rfl rfl ?_
                  refine r_aload_n C 1 dX8_refreshContracts_96 rfl rfl ?_
                  refine r_getI C fl_X8_72 rfl (hlak j (by omega)) dX8_refreshContracts_97 ?_
                  refine V.ei (y := nI (un τ 15 (ln j))) (hla1 j (by omega)) ?_
                  refine r_callV C hgX (ci := 5) ml_X8_113 im_X3_payOn se_X3_payOn rfl rfl (hbe.k 0 6 rfl) (c_X3_payOn l hfl G M5 (fc e) hbe τ hw (cn e) hec hfe (un τ 15 (ln j)) (by omega)) rfl (Nat.le_of_ble_eq_true rfl) ⟨Nat.le_of_ble_eq_true rfl, Nat.le_of_ble_eq_true rfl⟩ ⟨Nat.le_of_ble_eq_true rfl, Nat.le_of_ble_eq_true rfl⟩ dX8_refreshContracts_100 rfl ?_
                  rintro _ _ ⟨rfl, rfl⟩
                  refine V.eSt (st' := [.int (nI (pyC τ (cn e) (un τ 15 (ln j)))), .long (lN (un τ 5 (cn e))), .long (lN (lvS τ cn ln j e (un τ 15 (ln j) / 30))), .int (nI ((un τ 15 (ln j)) / 30)), .ref (fc e 9)]) rfl ?_
                  refine r_i2lN C (by omega) dX8_refreshContracts_103 ?_
                  refine r_lmulN C dX8_refreshContracts_104 ?_
                  refine r_ldc2 C (v := 60) kl_X8_117 dX8_refreshContracts_105 ?_
                  refine V.el (y := lN 60) (by decide) ?_
                  refine r_callS C hgX ml_X8_119 st_X2_rounded (c_X2_rounded l hfl G M5 (lN ((un τ 5 (cn e)) * (pyC τ (cn e) (un τ 15 (ln j))))) 60 (by omega)) rfl (Nat.le_of_ble_eq_true rfl) ⟨Nat.le_of_ble_eq_true rfl, Nat.le_of_ble_eq_true rfl⟩ ⟨Nat.le_of_ble_eq_true rfl, Nat.le_of_ble_eq_true rfl⟩ dX8_refreshContracts_108 rfl ?_
                  rintro _ _ ⟨rfl, rfl⟩
                  refine V.eSt (st' := [.long (rdF (lN ((un τ 5 (cn e)) * (pyC τ (cn e) (un τ 15 (ln j))))) (lN 60)), .long (lN (lvS τ cn ln j e (un τ 15 (ln j) / 30))), .int (nI ((un τ 15 (ln j)) / 30)), .ref (fc e 9)]) rfl ?_
                  refine V.el (y := lN (rN (un τ 5 (cn e) * pyC τ (cn e) (un τ 15 (ln j))) 60)) ((rdF_rnd (by omega) (by omega)).trans (rndL_N (by omega) (by omega) (by omega))) ?_
                  refine r_laddN C dX8_refreshContracts_111 ?_
                  have hcd2 := CoD.put hdx hpb hpc.2.1.inj hcd he (fun x => lp_v (x := x) hw hlj.1 (by omega) (of_decide_eq_true c74) hce) hce
                  refine r_lastoreN C (hbe.k 9 21 rfl) (hbe.n 9 24 rfl) (by omega) (by omega) dX8_refreshContracts_112 ?_
                  refine r_iinc C (v := nI (j + 1)) (lo' := [(1, .int (nI (j + 1))), (3, .ref (fc e 0)), (2, .ref (la j)), (0, .ref (h 0))]) 3 dX8_refreshContracts_113 rfl (nI_addI j 1) (by decide) rfl ?_
                  refine r_goto C (t := 35) dX8_refreshContracts_116 (by decide) ?_
                  refine V.sub [3, 0] (lo' := [(0, .ref (h 0)), (1, .int (nI (j + 1)))]) rfl ?_
                  exact ih35 (wL M5 (fc e 9) ((un τ 15 (ln j)) / 30) (lN (lvS τ cn ln j e (un τ 15 (ln j) / 30) + (rN (un τ 5 (cn e) * pyC τ (cn e) (un τ 15 (ln j))) 60)))) (j + 1) (by omega) hcd2 (by omega)
        refine V.sub [1, 0] (lo' := [(0, .ref (h 0)), (1, .int (nI 0))]) rfl ?_
        exact lp35 _ M1 0 (Nat.zero_le _) (⟨hrc.1, hrc.2.1, fun i hi => hrc.2.2.1 i hi⟩) (Nat.lt_succ_self _)
      · skip
        have hbi := hpb i (by omega)
        have hfi := (hpc.2.2 i (by omega)).2.fr hrc.1 (fun k hk => hrc.2.1 i (by omega) k (by omega)) (CoA.in' hdx (fun i hi => (hpc.2.2 i hi).1) (by omega) (by decide)) (CoA.in' hdx (fun i hi => (hpc.2.2 i hi).1) (by omega) (by decide))
        refine r_aload_n C 0 dX8_refreshContracts_13 rfl rfl ?_
        refine r_getR C (b := (h 1)) fl_X8_12 rfl (hb.k 0 11 rfl) (hb.r 0 1 1 rfl) dX8_refreshContracts_14 ?_
        refine r_iload_n C 1 dX8_refreshContracts_17 rfl rfl ?_
        obtain ⟨d_, hd_, hkd_, hsn_, hn_, hri_⟩ := (hpc1).get (i := i) (by omega)
        refine r_callV C hgX (ci := 2) ml_X8_60 im_Jx4a65c_get_915e3 se_Jx4a65c_get_915e3 rfl rfl (hb.k 1 3 rfl) (c_Jx4a65c_get_915e3 l hfl G M1 (h 1) d_ _ i (fc i 0) nc (hpc1).1 hd_ (hpc1).2.1 hkd_ rfl hn_ hsn_ (by omega) hri_) rfl (Nat.le_of_ble_eq_true rfl) ⟨Nat.le_of_ble_eq_true rfl, Nat.le_of_ble_eq_true rfl⟩ ⟨Nat.le_of_ble_eq_true rfl, Nat.le_of_ble_eq_true rfl⟩ dX8_refreshContracts_18 rfl ?_
        rintro _ _ ⟨rfl, rfl⟩
        refine V.eSt (st' := [.ref (fc i 0)]) rfl ?_
        refine r_cast C (ci := 5) rfl cl_X8_64 ((hbi.k 0 6 rfl)) dX8_refreshContracts_21 ?_
        refine r_callV C hgX (ci := 5) ml_X8_97 im_X3_refresh se_X3_refresh rfl rfl (hbi.k 0 6 rfl) (c_X3_refresh l hfl G M1 (fc i) hbi τ hw (cn i) (hpc.2.1.1 i (by omega)).1 hfi (hrc.2.2.2 i (Nat.le_refl _) (by omega))) rfl (Nat.le_of_ble_eq_true rfl) ⟨Nat.le_of_ble_eq_true rfl, Nat.le_of_ble_eq_true rfl⟩ ⟨Nat.le_of_ble_eq_true rfl, Nat.le_of_ble_eq_true rfl⟩ dX8_refreshContracts_24 rfl ?_
        rintro _ My3 ⟨rfl, hfm3, hk03, hst3, h9z3, hcw3⟩
        refine r_iinc C (v := nI (i + 1)) (lo' := [(1, .int (nI (i + 1))), (0, .ref (h 0))]) 1 dX8_refreshContracts_27 rfl (nI_addI i 1) (by decide) rfl ?_
        refine r_goto C (t := 2) dX8_refreshContracts_30 (by decide) ?_
        refine V.sub [1, 0] (lo' := [(0, .ref (h 0)), (1, .int (nI (i + 1)))]) rfl ?_
        exact ih2 My3 (i + 1) (by omega) (hrc.step hdx (by omega) hfm3 hk03 hst3 h9z3 hcw3) (by omega)
  refine V.sub [1, 0] (lo' := [(0, .ref (h 0)), (1, .int (nI 0))]) rfl ?_
  exact lp2 _ M 0 (Nat.zero_le _) (⟨frm.rf _ _, fun _ _ _ _ => rfl, fun j z => absurd z (Nat.not_lt_zero _), fun j _ hj => hsc j hj⟩) (Nat.lt_succ_self _)

