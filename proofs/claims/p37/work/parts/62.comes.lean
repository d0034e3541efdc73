/-! THE CLASS: elements, what they come to -/
/-- what the elements' cells hold -/
def ElF (τ : Mu) (i : Nat → Nat → Int32) (f : Nat → Nat) : Prop :=
  i (f 0) 0 = nI (un τ 26 26) ∧ i (f 0) 1 = nI (fmD τ 6 (un τ 24 6)) ∧ (∀ e, e < 7 → ∀ k, k < 10 → i (f (2 + e)) k = τ.1 22 (10 * e + k)) ∧ (∀ e, e < 7 → ∀ k, k < 10 → i (f (10 + e)) k = τ.1 23 (10 * e + k)) ∧
  (∀ e, e < 7 → i (f 17) e = nI (un τ 24 e)) ∧ (∀ e, e < 7 → i (f 18) e = nI (needN τ e)) ∧ (∀ e, e < un τ 26 26 → i (f 19) e = nI (un τ 25 e)) ∧ ∀ k, k < un τ 26 26 → i (f 20) k = nI (un τ 27 k)
theorem ElF.fr {τ : Mu} {A : Nat → Prop} {M M' : Mem} {f : Nat → Nat} (h : ElF τ (mI M) f) (g : frm A M M') (hA : ∀ o, o < 21 → ¬ A (f o)) : ElF τ (mI M') f := by
  obtain ⟨a0, a1, a2, a3, a4, a5, a6, a7⟩ := h
  have e : ∀ o, o < 21 → mI M' (f o) = mI M (f o) := fun o ho => g.i (hA o ho)
  refine ⟨by rw [e 0 (by decide)]; exact a0, by rw [e 0 (by decide)]; exact a1, fun x hx k hk => by rw [e (2 + x) (by omega)]; exact a2 x hx k hk, fun x hx k hk => by rw [e (10 + x) (by omega)]; exact a3 x hx k hk, ?_, ?_, ?_, ?_⟩
  · rw [e 17 (by decide)]; exact a4
  · rw [e 18 (by decide)]; exact a5
  · rw [e 19 (by decide)]; exact a6
  · rw [e 20 (by decide)]; exact a7
theorem el_n {K N : Nat → Nat} {R : Nat → Nat → Option Nat} {f : Nat → Nat} (hb : Blk tbEl K N R f) {o t : Nat} (h : o < t) (ht : t < 23) : f o ≠ f t := hb.neq (show o < 23 by omega) (show t < 23 from ht) (by omega)
def sgL (M : Mem) (a w : Nat) (x : Int32) (b h : Int64) : Int64 := if w = 0 then b else if w = 1 then h else if w = 3 then x.toInt64 else mL M a x.toNatClampNeg
theorem sg_L {τ : Mu} {M : Mem} {a i : Nat} {b h : Int64} (h0 : ∀ n, un τ 26 26 ≤ n → n < 6 → mL M a n = lN 0) (h2 : un τ 22 i = 2 → okN τ 23 i 5) (hw : un τ 22 i < 4) : sgL M a (un τ 22 i) (τ.1 23 i) b h = singL τ (mL M a) b h i := by
  unfold sgL singL
  by_cases e0 : un τ 22 i = 0
  · rw [if_pos e0, if_pos e0]
  by_cases e1 : un τ 22 i = 1
  · rw [if_neg e0, if_neg e0, if_pos e1, if_pos e1]
  by_cases e3 : un τ 22 i = 3
  · rw [if_neg e0, if_neg e0, if_neg e1, if_neg e1, if_pos e3, if_pos e3]
  · rw [if_neg e0, if_neg e0, if_neg e1, if_neg e1, if_neg e3, if_neg e3]
    have k := h2 (by omega)
    show mL M a (un τ 23 i) = _
    split
    · rfl
    · exact h0 _ (by omega) (by have := k.2; omega)
/-- what the elements come to behind k of the order, of bases b and hours h -/
theorem cmL_z {τ : Mu} {p m : Nat} : ∀ {k : Nat} {e : Nat}, (∀ j, j < k → un τ 27 j ≠ e) → cmL τ p m k e = lN 0
  | 0, _, _ => rfl
  | k + 1, e, h => by
    show vp_updL (cmL τ p m k) (un τ 27 k) _ e = lN 0
    rw [pk_uLn (h k (by omega)).symm]
    exact cmL_z (fun j hj => h j (by omega))
theorem ord_ne {τ : Mu} (hw : WF τ) {k : Nat} (hk : k < un τ 26 26) : ∀ j, j < k → un τ 27 j ≠ un τ 27 k := by
  have hb : ∀ n, n ≤ k → ∀ j, j < n → (arrD τ n).testBit (un τ 27 j) = true := by
    intro n
    induction n with
    | zero => intro _ j hj; exact absurd hj (Nat.not_lt_zero _)
    | succ n ih =>
      intro hn j hj
      show (arrD τ n ||| 2 ^ arrS τ (arrD τ n)).testBit (un τ 27 j) = true
      rw [Nat.testBit_or]
      by_cases e : j = n
      · subst e
        rw [hw.or j (by omega), Nat.testBit_two_pow_self, Bool.or_true]
      · rw [ih (by omega) j (by omega), Bool.true_or]
  intro j hj e
  have h1 := hb k (Nat.le_refl _) j hj
  have h2 := (arr_s hw.ac hw.ne.2 hk).2.2
  rw [e, hw.or k hk, h2] at h1
  cases h1
set_option maxHeartbeats 4000000 in
set_option maxRecDepth 100000 in
theorem c_X4_single (l : Launch) (hfl : l.flags = flags0) (G : gW) (M : Mem) (f : Nat → Nat) (hb : Blk tbEl (mK M) (mN M) (mR M) f) (w : Nat) (x : Int32) (b h : Int64) (hw4 : w < 4) (h2 : w = 2 → ∃ n, n < 6 ∧ x = nI n) : CT l yX4_single cX4_single 7 (some .long) 0 0 0 0 G M [.ref (f 0), .int (nI w), .int x, .long b, .long h] (fun v M' => v = some (.long (sgL M (f 21) w x b h)) ∧ M = M') := by
  refine CT.of hfl rfl (Nat.le_of_ble_eq_true rfl) ?_
  intro pp ee ss mm ar bw mt cd C hgX hr hini
  refine V.eLo (lo' := [(0, .ref (f 0)), (1, .int (nI w)), (2, .int x), (3, .long b), (5, .long h)]) rfl ?_
  refine r_iload_n C 1 dX4_single_0 rfl rfl ?_
  rcases (show w = 0 ∨ w = 1 ∨ w = 2 ∨ w = 3 from by omega) with sw1 | sw1 | sw1 | sw1
  · skip
    refine V.ei (y := nI 0) (congrArg nI sw1) ?_
    refine r_tabIn C (off := 27) (t := 28) dX4_single_1 (by decide) (by decide) (by decide) (by decide) ?_
    refine r_lload_n C 3 dX4_single_28 rfl rfl ?_
    exact r_lret C hr (⟨by refine congrArg (fun z => some (Value.long z)) ?_; unfold sgL; rw [if_pos sw1], rfl⟩) (by first | exact Nat.zero_le _ | decide) (by first | exact Nat.zero_le _ | decide) dX4_single_29
  · skip
    refine V.ei (y := nI 1) (congrArg nI sw1) ?_
    refine r_tabIn C (off := 29) (t := 30) dX4_single_1 (by decide) (by decide) (by decide) (by decide) ?_
    refine r_lload C 4 dX4_single_30 rfl ?_
    exact r_lret C hr (⟨by refine congrArg (fun z => some (Value.long z)) ?_; unfold sgL; rw [if_neg (by omega), if_pos sw1], rfl⟩) (by first | exact Nat.zero_le _ | decide) (by first | exact Nat.zero_le _ | decide) dX4_single_32
  · skip
    refine V.ei (y := nI 2) (congrArg nI sw1) ?_
    refine r_tabIn C (off := 32) (t := 33) dX4_single_1 (by decide) (by decide) (by decide) (by decide) ?_
    obtain ⟨n, hn6, hxn⟩ := h2 sw1
    refine V.eLo (lo' := [(0, .ref (f 0)), (1, .int (nI w)), (2, .int (nI n)), (3, .long b), (5, .long h)]) (by rw [hxn]) ?_
    refine r_iload_n C 2 dX4_single_33 rfl rfl ?_
    refine r_if_ltN C (t := 52) (by omega) dX4_single_34 (by decide) ?_
    refine r_iload_n C 2 dX4_single_37 rfl rfl ?_
    refine r_bipush C (v := nI 6) dX4_single_38 (by decide) ?_
    refine r_icmp_geN C (t := 52) (by omega) (by omega) dX4_single_40 (by decide) (fun c40 => ?_) (fun c40 => ?_)
    · exact absurd hn6 (by omega)
    · skip
      refine r_aload_n C 0 dX4_single_43 rfl rfl ?_
      refine r_getR C (b := (f 21)) fl_X4_32 rfl (hb.k 0 7 rfl) (hb.r 0 8 21 rfl) dX4_single_44 ?_
      refine r_iload_n C 2 dX4_single_47 rfl rfl ?_
      refine r_laloadN C (hb.k 21 21 rfl) (hb.n 21 6 rfl) (by omega) (by omega) dX4_single_48 ?_
      refine r_goto C (t := 53) dX4_single_49 (by decide) ?_
      exact r_lret C hr (⟨by refine congrArg (fun z => some (Value.long z)) ?_; unfold sgL; rw [if_neg (by omega), if_neg (by omega), if_neg (by omega), hxn, nI_clamp (by omega)], rfl⟩) (by first | exact Nat.zero_le _ | decide) (by first | exact Nat.zero_le _ | decide) dX4_single_53
  · skip
    refine V.ei (y := nI 3) (congrArg nI sw1) ?_
    refine r_tabOut C (t := 54) dX4_single_1 (by decide) (by decide) ?_
    refine r_iload_n C 2 dX4_single_54 rfl rfl ?_
    refine r_i2l C dX4_single_55 ?_
    exact r_lret C hr (⟨by refine congrArg (fun z => some (Value.long z)) ?_; unfold sgL; rw [if_neg (by omega), if_neg (by omega), if_pos sw1], rfl⟩) (by first | exact Nat.zero_le _ | decide) (by first | exact Nat.zero_le _ | decide) dX4_single_56
set_option maxHeartbeats 4000000 in
set_option maxRecDepth 100000 in
theorem c_X4_comesTo (l : Launch) (hfl : l.flags = flags0) (G : gW) (M : Mem) (f : Nat → Nat) (hb : Blk tbEl (mK M) (mN M) (mR M) f) (τ : Mu) (hw : WF τ) (hf : ElF τ (mI M) f) (e : Nat) (he : e < un τ 26 26) (b h : Int64) (hc0 : ∀ n, un τ 26 26 ≤ n → n < 6 → mL M (f 21) n = lN 0) : CT l yX4_comesTo cX4_comesTo 9 (some .long) 3 0 0 77 G M [.ref (f 0), .int (nI e), .long b, .long h] (fun v M' => v = some (.long (formL τ (mL M (f 21)) b h e)) ∧ frm (fun a => a = f 22) M M') := by
  refine CT.of hfl rfl (Nat.le_of_ble_eq_true rfl) ?_
  intro pp ee ss mm ar bw mt cd C hgX hr hini
  have hne := hw.ne.2
  obtain ⟨he0, he1, hwd, hnm, hle, hnd, hse, hod⟩ := id hf
  refine V.eLo (lo' := [(0, .ref (f 0)), (1, .int (nI e)), (2, .long b), (4, .long h)]) rfl ?_
  refine r_iconst C (v := nI 0) dX4_comesTo_0 (by decide) ?_
  refine r_istore C (lo' := [(6, .int (nI 0)), (0, .ref (f 0)), (1, .int (nI e)), (2, .long b), (4, .long h)]) dX4_comesTo_1 (by decide) rfl ?_
  refine r_iconst C (v := nI 0) dX4_comesTo_3 (by decide) ?_
  refine r_istore C (lo' := [(7, .int (nI 0)), (6, .int (nI 0)), (0, .ref (f 0)), (1, .int (nI e)), (2, .long b), (4, .long h)]) dX4_comesTo_4 (by decide) rfl ?_
  have lp6 : ∀ (k6 : Nat) (M1 : Mem) (k : Nat) (hk : k ≤ un τ 24 e) (hfm : frm (fun a => a = f 22) M M1) (hpl : ∀ i, i < fmD τ e k → mL M1 (f 22) i = fmP τ (mL M (f 21)) b h e k i), un τ 24 e + 1 - k < k6 → V pp l ee ({ frames := 3, cells := 0, slots := 0, locals := 77 } : Room) ss mm ar bw mt cd G (MQ bw (Ke G (fun v M' => v = some (.long (formL τ (mL M (f 21)) b h e)) ∧ frm (fun a => a = f 22) M M')) ar ss 0 0 (gA G)) 9 M1 0 0 6 [(0, .ref (f 0)), (1, .int (nI e)), (2, .long b), (4, .long h), (6, .int (nI (fmD τ e k))), (7, .int (nI k))] [] := by
    intro k6
    induction k6 with
    | zero => intro M1 k hk hfm hpl hz6; exact absurd hz6 (Nat.not_lt_zero _)
    | succ k6 ih6 =>
      intro M1 k hk hfm hpl hz6
      have h21 : mL M1 (f 21) = mL M (f 21) := hfm.l (hb.ne 21 22 rfl)
      have hf := hf.fr hfm (fun o ho => el_n hb (show o < 22 by omega) (by decide))
      have hb := hfm.blk hb
      obtain ⟨he0, he1, hwd, hnm, hle, hnd, hse, hod⟩ := id hf
      have hel := (hw.el e (by omega)).2
      have hfd := fmD_le τ e k
      refine r_iload C 5 dX4_comesTo_6 rfl ?_
      refine r_aload_n C 0 dX4_comesTo_8 rfl rfl ?_
      refine r_getR C (b := (f 17)) fl_X4_19 rfl (hb.k 0 7 rfl) (hb.r 0 4 17 rfl) dX4_comesTo_9 ?_
      refine r_iload_n C 1 dX4_comesTo_12 rfl rfl ?_
      refine r_ialoadN C (hb.k 17 20 rfl) (hb.n 17 7 rfl) (by omega) (by omega) dX4_comesTo_13 ?_
      refine V.ei (y := nI (un τ 24 e)) (hle e (by omega)) ?_
      refine r_icmp_geN C (t := 125) (by omega) (by omega) dX4_comesTo_14 (by decide) (fun c14 => ?_) (fun c14 => ?_)
      · skip
        have ek : k = un τ 24 e := by omega
        subst ek
        have hf1 := (hw.fm e he).2
        refine r_aload_n C 0 dX4_comesTo_125 rfl rfl ?_
        refine r_getR C (b := (f 22)) fl_X4_36 rfl (hb.k 0 7 rfl) (hb.r 0 9 22 rfl) dX4_comesTo_126 ?_
        refine r_iconst C (v := nI 0) dX4_comesTo_129 (by decide) ?_
        refine r_laloadN C (hb.k 22 21 rfl) (hb.n 22 10 rfl) (by omega) (by omega) dX4_comesTo_130 ?_
        refine V.el (y := formL τ (mL M (f 21)) b h e) (hpl 0 (by omega)) ?_
        exact r_lret C hr (⟨rfl, hfm⟩) (by first | exact Nat.zero_le _ | decide) (by first | exact Nat.zero_le _ | decide) dX4_comesTo_131
      · skip
        have hk1 : k < un τ 24 e := by omega
        have how := hw.ew e k (by omega) hk1
        have how2 := how.2
        refine r_aload_n C 0 dX4_comesTo_17 rfl rfl ?_
        refine r_getR C (b := (f 1)) fl_X4_13 rfl (hb.k 0 7 rfl) (hb.r 0 2 1 rfl) dX4_comesTo_18 ?_
        refine r_iload_n C 1 dX4_comesTo_21 rfl rfl ?_
        refine r_aaloadN C (b := (f (2 + e))) 4 (by decide) (hb.k 1 27 rfl) (hb.n 1 7 rfl) (by omega) (by omega) (hb.ro 1 2 7 1 rfl e (by omega)) dX4_comesTo_22 ?_
        refine r_iload C 5 dX4_comesTo_23 rfl ?_
        refine r_ialoadN C (hb.ko 2 20 7 rfl e (by omega)) (hb.no 2 10 7 rfl e (by omega)) (by omega) (by omega) dX4_comesTo_25 ?_
        refine V.ei (y := nI (un τ 22 (10 * e + k))) ((hwd e (by omega) k (by omega)).trans how.1) ?_
        refine r_istore C (lo' := [(8, .int (nI (un τ 22 (10 * e + k)))), (0, .ref (f 0)), (1, .int (nI e)), (2, .long b), (4, .long h), (6, .int (nI (fmD τ e k))), (7, .int (nI k))]) dX4_comesTo_26 (by decide) rfl ?_
        refine r_iload C 0 dX4_comesTo_28 rfl ?_
        refine r_iconst C (v := nI 4) dX4_comesTo_30 (by decide) ?_
        refine r_icmp_geN C (t := 75) (by omega) (by omega) dX4_comesTo_31 (by decide) (fun c31 => ?_) (fun c31 => ?_)
        · skip
          have hf2 := (hw.fm e he).1 k hk1 (by omega)
          have hfd1 : fmD τ e (k + 1) = fmD τ e k - 1 := if_neg (by omega)
          have hfp1 : fmP τ (mL M (f 21)) b h e (k + 1) = vp_updL (fmP τ (mL M (f 21)) b h e k) (fmD τ e k - 2) (keptL (joinL (un τ 22 (10 * e + k)) (fmP τ (mL M (f 21)) b h e k (fmD τ e k - 2)) (fmP τ (mL M (f 21)) b h e k (fmD τ e k - 1)))) := if_neg (by omega)
          refine r_iload C 5 dX4_comesTo_75 rfl ?_
          refine r_iconst C (v := nI 2) dX4_comesTo_77 (by decide) ?_
          refine r_icmp_ltN C (t := 119) (by omega) (by omega) dX4_comesTo_78 (by decide) (fun c78 => ?_) (fun c78 => ?_)
          · exact absurd c78 (by omega)
          · skip
            refine r_aload_n C 1 dX4_comesTo_81 rfl rfl ?_
            refine r_getR C (b := (f 22)) fl_X4_36 rfl (hb.k 0 7 rfl) (hb.r 0 9 22 rfl) dX4_comesTo_82 ?_
            refine r_iload C 5 dX4_comesTo_85 rfl ?_
            refine r_iconst C (v := nI 2) dX4_comesTo_87 (by decide) ?_
            refine r_isubN C (by omega) dX4_comesTo_88 ?_
            refine r_iload C 0 dX4_comesTo_89 rfl ?_
            refine r_aload_n C 1 dX4_comesTo_91 rfl rfl ?_
            refine r_getR C (b := (f 22)) fl_X4_36 rfl (hb.k 0 7 rfl) (hb.r 0 9 22 rfl) dX4_comesTo_92 ?_
            refine r_iload C 5 dX4_comesTo_95 rfl ?_
            refine r_iconst C (v := nI 2) dX4_comesTo_97 (by decide) ?_
            refine r_isubN C (by omega) dX4_comesTo_98 ?_
            refine r_laloadN C (hb.k 22 21 rfl) (hb.n 22 10 rfl) (by omega) (by omega) dX4_comesTo_99 ?_
            refine V.el (y := fmP τ (mL M (f 21)) b h e k (fmD τ e k - 2)) (hpl _ (by omega)) ?_
            refine r_aload_n C 1 dX4_comesTo_100 rfl rfl ?_
            refine r_getR C (b := (f 22)) fl_X4_36 rfl (hb.k 0 7 rfl) (hb.r 0 9 22 rfl) dX4_comesTo_101 ?_
            refine r_iload C 5 dX4_comesTo_104 rfl ?_
            refine r_iconst C (v := nI 1) dX4_comesTo_106 (by decide) ?_
            refine r_isubN C (by omega) dX4_comesTo_107 ?_
            refine r_laloadN C (hb.k 22 21 rfl) (hb.n 22 10 rfl) (by omega) (by omega) dX4_comesTo_108 ?_
            refine V.el (y := fmP τ (mL M (f 21)) b h e k (fmD τ e k - 1)) (hpl _ (by omega)) ?_
            refine r_callS C hgX ml_X4_81 st_X4_joined (c_X4_joined l hfl G M1 (un τ 22 (10 * e + k)) (fmP τ (mL M (f 21)) b h e k (fmD τ e k - 2)) (fmP τ (mL M (f 21)) b h e k (fmD τ e k - 1)) (by omega) (by omega)) rfl (Nat.le_of_ble_eq_true rfl) ⟨Nat.le_of_ble_eq_true rfl, Nat.le_of_ble_eq_true rfl⟩ ⟨Nat.le_of_ble_eq_true rfl, Nat.le_of_ble_eq_true rfl⟩ dX4_comesTo_109 rfl ?_
            rintro _ _ ⟨rfl, rfl⟩
            refine V.eSt (st' := [.long (joinL (un τ 22 (10 * e + k)) (fmP τ (mL M (f 21)) b h e k (fmD τ e k - 2)) (fmP τ (mL M (f 21)) b h e k (fmD τ e k - 1))), .int (nI ((fmD τ e k) - 2)), .ref (f 22)]) rfl ?_
            refine r_callS C hgX ml_X4_77 st_X4_bounded (c_X4_bounded l hfl G M1 (joinL (un τ 22 (10 * e + k)) (fmP τ (mL M (f 21)) b h e k (fmD τ e k - 2)) (fmP τ (mL M (f 21)) b h e k (fmD τ e k - 1)))) rfl (Nat.le_of_ble_eq_true rfl) ⟨Nat.le_of_ble_eq_true rfl, Nat.le_of_ble_eq_true rfl⟩ ⟨Nat.le_of_ble_eq_true rfl, Nat.le_of_ble_eq_true rfl⟩ dX4_comesTo_112 rfl ?_
            rintro _ _ ⟨rfl, rfl⟩
            refine V.eSt (st' := [.long (keptL (joinL (un τ 22 (10 * e + k)) (fmP τ (mL M (f 21)) b h e k (fmD τ e k - 2)) (fmP τ (mL M (f 21)) b h e k (fmD τ e k - 1)))), .int (nI ((fmD τ e k) - 2)), .ref (f 22)]) rfl ?_
            refine r_lastoreN C (hb.k 22 21 rfl) (hb.n 22 10 rfl) (by omega) (by omega) dX4_comesTo_115 ?_
            refine r_iinc C (v := nI (fmD τ e k - 1)) (lo' := [(6, .int (nI (fmD τ e k - 1))), (8, .int (nI (un τ 22 (10 * e + k)))), (0, .ref (f 0)), (1, .int (nI e)), (2, .long b), (4, .long h), (7, .int (nI k))]) 5 dX4_comesTo_116 rfl (nI_m1 (by omega)) (by decide) rfl ?_
            have hpl1 : ∀ i, i < fmD τ e (k + 1) → mL (wL M1 (f 22) ((fmD τ e k) - 2) (keptL (joinL (un τ 22 (10 * e + k)) (fmP τ (mL M (f 21)) b h e k (fmD τ e k - 2)) (fmP τ (mL M (f 21)) b h e k (fmD τ e k - 1))))) (f 22) i = fmP τ (mL M (f 21)) b h e (k + 1) i := by
              intro i hi
              rw [hfp1]
              rw [hfd1] at hi
              by_cases z : i = fmD τ e k - 2
              · subst z; exact wL_i.trans pk_uLs.symm
              · exact (wL_k z).trans ((hpl i (by omega)).trans (pk_uLn z).symm)
            refine r_iinc C (v := nI (k + 1)) (lo' := [(7, .int (nI (k + 1))), (6, .int (nI (fmD τ e k - 1))), (8, .int (nI (un τ 22 (10 * e + k)))), (0, .ref (f 0)), (1, .int (nI e)), (2, .long b), (4, .long h)]) 6 dX4_comesTo_119 rfl (nI_addI k 1) (by decide) rfl ?_
            refine r_goto C (t := 6) dX4_comesTo_122 (by decide) ?_
            have jb6 : (fmD τ e k - 1) = (fmD τ e (k + 1)) := by rw [hfd1]
            refine V.eLo (lo' := [(7, .int (nI (k + 1))), (6, .int (nI (fmD τ e (k + 1)))), (8, .int (nI (un τ 22 (10 * e + k)))), (0, .ref (f 0)), (1, .int (nI e)), (2, .long b), (4, .long h)]) (congrArg (fun z_ => ([(7, .int (nI (k + 1))), (6, .int (nI z_)), (8, .int (nI (un τ 22 (10 * e + k)))), (0, .ref (f 0)), (1, .int (nI e)), (2, .long b), (4, .long h)] : List (Nat × Value))) jb6) ?_
            refine V.sub [3, 4, 5, 6, 1, 0] (lo' := [(0, .ref (f 0)), (1, .int (nI e)), (2, .long b), (4, .long h), (6, .int (nI (fmD τ e (k + 1)))), (7, .int (nI (k + 1)))]) rfl ?_
            exact ih6 (wL M1 (f 22) ((fmD τ e k) - 2) (keptL (joinL (un τ 22 (10 * e + k)) (fmP τ (mL M (f 21)) b h e k (fmD τ e k - 2)) (fmP τ (mL M (f 21)) b h e k (fmD τ e k - 1))))) (k + 1) (by omega) (hfm.wl _ _ rfl) hpl1 (by omega)
        · skip
          have hfd1 : fmD τ e (k + 1) = fmD τ e k + 1 := if_pos (by omega)
          have hfp1 : fmP τ (mL M (f 21)) b h e (k + 1) = vp_updL (fmP τ (mL M (f 21)) b h e k) (fmD τ e k) (keptL (singL τ (mL M (f 21)) b h (10 * e + k))) := if_pos (by omega)
          refine r_iload C 5 dX4_comesTo_34 rfl ?_
          refine r_bipush C (v := nI 10) dX4_comesTo_36 (by decide) ?_
          refine r_icmp_geN C (t := 75) (by omega) (by omega) dX4_comesTo_38 (by decide) (fun c38 => ?_) (fun c38 => ?_)
          · exact absurd c38 (by omega)
          · skip
            refine r_aload_n C 1 dX4_comesTo_41 rfl rfl ?_
            refine r_getR C (b := (f 22)) fl_X4_36 rfl (hb.k 0 7 rfl) (hb.r 0 9 22 rfl) dX4_comesTo_42 ?_
            refine r_iload C 5 dX4_comesTo_45 rfl ?_
            refine r_aload_n C 1 dX4_comesTo_47 rfl rfl ?_
            refine r_iload C 0 dX4_comesTo_48 rfl ?_
            refine r_aload_n C 1 dX4_comesTo_50 rfl rfl ?_
            refine r_getR C (b := (f 9)) fl_X4_16 rfl (hb.k 0 7 rfl) (hb.r 0 3 9 rfl) dX4_comesTo_51 ?_
            refine r_iload_n C 2 dX4_comesTo_54 rfl rfl ?_
            refine r_aaloadN C (b := (f (10 + e))) 4 (by decide) (hb.k 9 27 rfl) (hb.n 9 7 rfl) (by omega) (by omega) (hb.ro 9 10 7 1 rfl e (by omega)) dX4_comesTo_55 ?_
            refine r_iload C 6 dX4_comesTo_56 rfl ?_
            refine r_ialoadN C (hb.ko 10 20 7 rfl e (by omega)) (hb.no 10 10 7 rfl e (by omega)) (by omega) (by omega) dX4_comesTo_58 ?_
            refine V.ei (y := τ.1 23 (10 * e + k)) (hnm e (by omega) k (by omega)) ?_
            refine r_lload_n C 3 dX4_comesTo_59 rfl rfl ?_
            refine r_lload C 4 dX4_comesTo_60 rfl ?_
            refine r_callV C hgX (ci := 6) ml_X4_73 im_X4_single se_X4_single rfl rfl (hb.k 0 7 rfl) (c_X4_single l hfl G M1 f hb (un τ 22 (10 * e + k)) (τ.1 23 (10 * e + k)) b h (by omega) (fun q => by have z := hw.en e k (by omega) hk1 q; exact ⟨_, by have := z.2; omega, z.1⟩)) rfl (Nat.le_of_ble_eq_true rfl) ⟨Nat.le_of_ble_eq_true rfl, Nat.le_of_ble_eq_true rfl⟩ ⟨Nat.le_of_ble_eq_true rfl, Nat.le_of_ble_eq_true rfl⟩ dX4_comesTo_62 rfl ?_
            rintro _ _ ⟨rfl, rfl⟩
            refine V.eSt (st' := [.long (sgL M1 (f 21) (un τ 22 (10 * e + k)) (τ.1 23 (10 * e + k)) b h), .int (nI (fmD τ e k)), .ref (f 22)]) rfl ?_
            refine V.el (y := singL τ (mL M (f 21)) b h (10 * e + k)) ((sg_L (by rw [h21]; exact hc0) (fun q => hw.en e k (by omega) hk1 q) (by omega)).trans (by rw [h21])) ?_
            refine r_callS C hgX ml_X4_77 st_X4_bounded (c_X4_bounded l hfl G M1 (singL τ (mL M (f 21)) b h (10 * e + k))) rfl (Nat.le_of_ble_eq_true rfl) ⟨Nat.le_of_ble_eq_true rfl, Nat.le_of_ble_eq_true rfl⟩ ⟨Nat.le_of_ble_eq_true rfl, Nat.le_of_ble_eq_true rfl⟩ dX4_comesTo_65 rfl ?_
            rintro _ _ ⟨rfl, rfl⟩
            refine V.eSt (st' := [.long (keptL (singL τ (mL M (f 21)) b h (10 * e + k))), .int (nI (fmD τ e k)), .ref (f 22)]) rfl ?_
            refine r_lastoreN C (hb.k 22 21 rfl) (hb.n 22 10 rfl) (by omega) (by omega) dX4_comesTo_68 ?_
            refine r_iinc C (v := nI (fmD τ e k + 1)) (lo' := [(6, .int (nI (fmD τ e k + 1))), (8, .int (nI (un τ 22 (10 * e + k)))), (0, .ref (f 0)), (1, .int (nI e)), (2, .long b), (4, .long h), (7, .int (nI k))]) 5 dX4_comesTo_69 rfl (nI_addI (fmD τ e k) 1) (by decide) rfl ?_
            refine r_goto C (t := 119) dX4_comesTo_72 (by decide) ?_
            have hpl1 : ∀ i, i < fmD τ e (k + 1) → mL (wL M1 (f 22) (fmD τ e k) (keptL (singL τ (mL M (f 21)) b h (10 * e + k)))) (f 22) i = fmP τ (mL M (f 21)) b h e (k + 1) i := by
              intro i hi
              rw [hfp1]
              rw [hfd1] at hi
              by_cases z : i = fmD τ e k
              · subst z; exact wL_i.trans pk_uLs.symm
              · exact (wL_k z).trans ((hpl i (by omega)).trans (pk_uLn z).symm)
            refine r_iinc C (v := nI (k + 1)) (lo' := [(7, .int (nI (k + 1))), (6, .int (nI (fmD τ e k + 1))), (8, .int (nI (un τ 22 (10 * e + k)))), (0, .ref (f 0)), (1, .int (nI e)), (2, .long b), (4, .long h)]) 6 dX4_comesTo_119 rfl (nI_addI k 1) (by decide) rfl ?_
            refine r_goto C (t := 6) dX4_comesTo_122 (by decide) ?_
            have jb6 : (fmD τ e k + 1) = (fmD τ e (k + 1)) := by rw [hfd1]
            refine V.eLo (lo' := [(7, .int (nI (k + 1))), (6, .int (nI (fmD τ e (k + 1)))), (8, .int (nI (un τ 22 (10 * e + k)))), (0, .ref (f 0)), (1, .int (nI e)), (2, .long b), (4, .long h)]) (congrArg (fun z_ => ([(7, .int (nI (k + 1))), (6, .int (nI z_)), (8, .int (nI (un τ 22 (10 * e + k)))), (0, .ref (f 0)), (1, .int (nI e)), (2, .long b), (4, .long h)] : List (Nat × Value))) jb6) ?_
            refine V.sub [3, 4, 5, 6, 1, 0] (lo' := [(0, .ref (f 0)), (1, .int (nI e)), (2, .long b), (4, .long h), (6, .int (nI (fmD τ e (k + 1)))), (7, .int (nI (k + 1)))]) rfl ?_
            exact ih6 (wL M1 (f 22) (fmD τ e k) (keptL (singL τ (mL M (f 21)) b h (10 * e + k)))) (k + 1) (by omega) (hfm.wl _ _ rfl) hpl1 (by omega)
  refine V.sub [2, 3, 4, 5, 1, 0] (lo' := [(0, .ref (f 0)), (1, .int (nI e)), (2, .long b), (4, .long h), (6, .int (nI 0)), (7, .int (nI 0))]) rfl ?_
  exact lp6 _ M 0 (Nat.zero_le _) (frm.rf _ _) (fun i hi => absurd hi (Nat.not_lt_zero _)) (Nat.lt_succ_self _)

