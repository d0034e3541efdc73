/-! THE CLASS: an element made -/
theorem wCp_o {M : Mem} {a0 a b sp dp n : Nat} (h : b ≠ a) : mI (wCpI M a0 a sp dp n) b = mI M b := va_up_ne _ _ h
theorem wCp_i {M : Mem} {a0 a n k : Nat} (h : k < n) : mI (wCpI M a0 a 0 0 n) a k = mI M a0 k := by
  have : mI (wCpI M a0 a 0 0 n) a = va_cpy (mI M a0) (mI M a) 0 0 n := va_up_self _ _ _
  rw [this]
  unfold va_cpy
  rw [if_pos (by omega), Nat.sub_zero, Nat.zero_add]
theorem frm.cp {A : Nat → Prop} {M M' : Mem} (h : frm A M M') {a0 b sp dp n : Nat} (hb : A b) : frm A M (wCpI M' a0 b sp dp n) :=
  ⟨h.1, h.2.1, h.2.2.1, fun a q => ⟨(va_up_ne _ _ (fun e : a = b => q (by rw [e]; exact hb))).trans (h.2.2.2 a q).1, (h.2.2.2 a q).2⟩⟩
theorem arV_o {σ : Mu} {n k : Nat} (x : Nat) (h : k ≠ 27) : (arU σ n).1 k x = σ.1 k x := if_neg (fun q => h q.1)
theorem arU_i {σ : Mu} {n x : Nat} (h : x < n) : (arU σ n).1 27 x = nI (arrS σ (arrD σ x)) := if_pos ⟨rfl, h⟩
theorem arU_need {σ : Mu} {n e : Nat} : needN (arU σ n) e = needN σ e := by
  unfold needN
  rw [un_cg (arV_o e (by decide))]
  exact needK_cg' (fun j hj => ⟨arV_o _ (by decide), arV_o _ (by decide)⟩)
theorem arU_fm {σ : Mu} {n e k : Nat} : fmD (arU σ n) e k = fmD σ e k := fmD_cg (fun j hj => arV_o _ (by decide))
theorem elS_25 {τ : Mu} (c d x : Nat) : (elS τ c d).1 25 x = if x = c then nI d else τ.1 25 x := by
  show up2 (up2 (up2 (up2 (cpS τ c 10).1 24 c (nI (un τ 24 6))) 24 6 (nI 0)) 25 c (nI d)) 26 26 (nI (un τ 26 26 + (if c = un τ 26 26 then 1 else 0))) 25 x = _
  rw [up2_a _ _ (by decide)]
  by_cases e : x = c
  · subst e; rw [if_pos rfl, up2_same]
  · rw [if_neg e, up2_k _ _ e, up2_a _ _ (by decide), up2_a _ _ (by decide)]
    show (if (25 = 22 ∨ 25 = 23) ∧ 10 * c ≤ x ∧ x < 10 * c + 10 then τ.1 25 (60 + (x - 10 * c)) else τ.1 25 x) = _
    rw [if_neg (by omega)]
section Make
variable {τ : Mu} {M : Mem} {f : Nat → Nat} {c d : Nat}
theorem mk_o (hb : Blk tbEl (mK M) (mN M) (mR M) f) {o : Nat} (ho : o < 23) (h : o = 0 ∨ 17 ≤ o) (hc : c < 6) : mI (wCpI (wCpI M (f 8) (f (2 + c)) 0 0 10) (f 16) (f (10 + c)) 0 0 10) (f o) = mI M (f o) := by
  rw [wCp_o (hb.neq (show o < 23 from ho) (show 10 + c < 23 by omega) (by omega)), wCp_o (hb.neq (show o < 23 from ho) (show 2 + c < 23 by omega) (by omega))]
theorem mk_rows (hb : Blk tbEl (mK M) (mN M) (mR M) f) (hf : ElF τ (mI M) f) (hc : c < 6) : (∀ e, e < 7 → ∀ k, k < 10 → mI (wCpI (wCpI M (f 8) (f (2 + c)) 0 0 10) (f 16) (f (10 + c)) 0 0 10) (f (2 + e)) k = (elS τ c d).1 22 (10 * e + k)) ∧ ∀ e, e < 7 → ∀ k, k < 10 → mI (wCpI (wCpI M (f 8) (f (2 + c)) 0 0 10) (f 16) (f (10 + c)) 0 0 10) (f (10 + e)) k = (elS τ c d).1 23 (10 * e + k) := by
  obtain ⟨a0, a1, a2, a3, a4, a5, a6, a7⟩ := hf
  have nn : ∀ {o t : Nat}, o < 23 → t < 23 → o ≠ t → f o ≠ f t := fun {o t} h1 h2 h3 => hb.neq (show o < 23 from h1) (show t < 23 from h2) h3
  refine ⟨fun e he k hk => ?_, fun e he k hk => ?_⟩
  · rw [wCp_o (nn (by omega) (by omega) (by omega))]
    by_cases z : e = c
    · subst z; rw [wCp_i hk, elS_rowc (.inl rfl) hk]; exact a2 6 (by decide) k hk
    · rw [wCp_o (nn (by omega) (by omega) (by omega)), elS_rowo (.inl rfl) hk z]; exact a2 e he k hk
  · by_cases z : e = c
    · subst z
      rw [wCp_i hk, wCp_o (nn (by omega) (by omega) (by omega)), elS_rowc (.inr rfl) hk]; exact a3 6 (by decide) k hk
    · rw [wCp_o (nn (by omega) (by omega) (by omega)), wCp_o (nn (by omega) (by omega) (by omega)), elS_rowo (.inr rfl) hk z]; exact a3 e he k hk
theorem mk_cnt (hw : WF τ) (hc : c ≤ un τ 26 26) : un (elS τ c d) 26 26 = max (un τ 26 26) (c + 1) := by
  rw [elS_n hw]; split <;> omega
theorem mk_need (hw : WF τ) (hb : Blk tbEl (mK M) (mN M) (mR M) f) (hf : ElF τ (mI M) f) (hc : c < 6) : ∀ e, e < 7 → mI (wI (wI (wI (wI (wI (wI (wI (wCpI (wCpI M (f 8) (f (2 + c)) 0 0 10) (f 16) (f (10 + c)) 0 0 10) (f 17) c (nI (un τ 24 6))) (f 18) c (nI (needN τ 6))) (f 19) c (nI d)) (f 17) 6 (nI 0)) (f 18) 6 (nI 0)) (f 0) 1 (nI 0)) (f 0) 0 (nI (max (un τ 26 26) (c + 1)))) (f 18) e = nI (needN (elS τ c d) e) := by
  obtain ⟨a0, a1, a2, a3, a4, a5, a6, a7⟩ := hf
  intro e he
  rw [wI_a (hb.ne 18 0 rfl), wI_a (hb.ne 18 0 rfl)]
  by_cases z : e = 6
  · subst z
    rw [wI_i]
    unfold needN
    rw [elS_el6]
    rfl
  · rw [wI_k z, wI_a (hb.ne 18 17 rfl), wI_a (hb.ne 18 19 rfl)]
    by_cases z2 : e = c
    · subst z2; rw [wI_i, elS_nc hw hc]
    · rw [wI_k z2, wI_a (hb.ne 18 17 rfl), mk_o hb (by decide) (.inr (by decide)) hc, elS_no hw z2 (by omega)]; exact a5 e he
theorem mk_elf (hw : WF τ) (hb : Blk tbEl (mK M) (mN M) (mR M) f) (hf : ElF τ (mI M) f) (hc : c < 6) (hcn : c ≤ un τ 26 26) {M2 : Mem} (hfm : frm (fun a => a = f 20) (wI (wI (wI (wI (wI (wI (wI (wCpI (wCpI M (f 8) (f (2 + c)) 0 0 10) (f 16) (f (10 + c)) 0 0 10) (f 17) c (nI (un τ 24 6))) (f 18) c (nI (needN τ 6))) (f 19) c (nI d)) (f 17) 6 (nI 0)) (f 18) 6 (nI 0)) (f 0) 1 (nI 0)) (f 0) 0 (nI (max (un τ 26 26) (c + 1)))) M2) (hs : ∀ k, k < un (elS τ c d) 26 26 → mI M2 (f 20) k = nI (arrS (elS τ c d) (arrD (elS τ c d) k))) (hd : d < 64) : ElF (elU τ c d) (mI M2) f := by
  obtain ⟨r1, r2⟩ := mk_rows (d := d) hb hf hc
  have hn := mk_need (d := d) hw hb hf hc
  obtain ⟨a0, a1, a2, a3, a4, a5, a6, a7⟩ := hf
  have hm := mk_cnt (d := d) hw hcn
  have e0 : ∀ o, o < 20 → mI M2 (f o) = mI (wI (wI (wI (wI (wI (wI (wI (wCpI (wCpI M (f 8) (f (2 + c)) 0 0 10) (f 16) (f (10 + c)) 0 0 10) (f 17) c (nI (un τ 24 6))) (f 18) c (nI (needN τ 6))) (f 19) c (nI d)) (f 17) 6 (nI 0)) (f 18) 6 (nI 0)) (f 0) 1 (nI 0)) (f 0) 0 (nI (max (un τ 26 26) (c + 1)))) (f o) := fun o ho => hfm.i (el_n hb (show o < 20 from ho) (by decide))
  have nn : ∀ {o t : Nat}, o < 23 → t < 23 → o ≠ t → f o ≠ f t := fun {o t} h1 h2 h3 => hb.neq (show o < 23 from h1) (show t < 23 from h2) h3
  have u26 : un (elU τ c d) 26 26 = un (elS τ c d) 26 26 := un_cg (arV_o _ (by decide))
  have row : ∀ o, o < 17 → o ≠ 0 → mI M2 (f o) = mI (wCpI (wCpI M (f 8) (f (2 + c)) 0 0 10) (f 16) (f (10 + c)) 0 0 10) (f o) := fun o ho h0 => by
    rw [e0 o (by omega), wI_a (nn (by omega) (by decide) h0), wI_a (nn (by omega) (by decide) h0), wI_a (nn (by omega) (by decide) (by omega)), wI_a (nn (by omega) (by decide) (by omega)), wI_a (nn (by omega) (by decide) (by omega)), wI_a (nn (by omega) (by decide) (by omega)), wI_a (nn (by omega) (by decide) (by omega))]
  refine ⟨?_, ?_, fun e he k hk => ?_, fun e he k hk => ?_, fun e he => ?_, fun e he => ?_, fun e he => ?_, fun k hk => ?_⟩
  · rw [e0 0 (by decide), wI_i, u26, hm]
  · rw [e0 0 (by decide), wI_k (by decide), wI_i]
    unfold elU
    rw [arU_fm, un_cg (arV_o (n := un τ 26 26 + (if c = un τ 26 26 then 1 else 0)) 6 (by decide)), elS_el6]
    rfl
  · rw [row _ (by omega) (by omega), r1 e he k hk]; exact (arV_o _ (by decide)).symm
  · rw [row _ (by omega) (by omega), r2 e he k hk]; exact (arV_o _ (by decide)).symm
  · have u24 : un (elU τ c d) 24 e = un (elS τ c d) 24 e := un_cg (arV_o _ (by decide))
    rw [u24, e0 17 (by decide), wI_a (hb.ne 17 0 rfl), wI_a (hb.ne 17 0 rfl), wI_a (hb.ne 17 18 rfl)]
    by_cases z : e = 6
    · subst z; rw [wI_i, elS_el6]
    · rw [wI_k z, wI_a (hb.ne 17 19 rfl), wI_a (hb.ne 17 18 rfl)]
      by_cases z2 : e = c
      · subst z2; rw [wI_i, elS_elc hw hc]
      · rw [wI_k z2, mk_o hb (by decide) (.inr (by decide)) hc, elS_elo z2 z]; exact a4 e he
  · rw [e0 18 (by decide), hn e he]; unfold elU; rw [arU_need]
  · rw [u26] at he
    have u25 : un (elU τ c d) 25 e = un (elS τ c d) 25 e := un_cg (arV_o _ (by decide))
    rw [u25, e0 19 (by decide), wI_a (hb.ne 19 0 rfl), wI_a (hb.ne 19 0 rfl), wI_a (hb.ne 19 18 rfl), wI_a (hb.ne 19 17 rfl)]
    by_cases z2 : e = c
    · subst z2; rw [wI_i, un_of (v := d) (by rw [elS_25, if_pos rfl]) (by omega)]
    · rw [wI_k z2, wI_a (hb.ne 19 18 rfl), wI_a (hb.ne 19 17 rfl), mk_o hb (by decide) (.inr (by decide)) hc, un_cg (τ := τ) (by rw [elS_25, if_neg z2])]
      exact a6 e (by rw [hm] at he; omega)
  · rw [u26] at hk
    have u27 : (elU τ c d).1 27 k = nI (arrS (elS τ c d) (arrD (elS τ c d) k)) := arU_i (by rw [elS_n hw] at hk; exact hk)
    have h6 : un (elS τ c d) 26 26 ≤ 6 := (elS_lt (d := d) hw hcn hc).1
    rw [hs k hk, un_of u27 (by have := arrS_lt h6 (arrD (elS τ c d) k); omega)]
end Make
theorem mk_cz {τ : Mu} {M : Mem} {f : Nat → Nat} {c d : Nat} (hb : Blk tbEl (mK M) (mN M) (mR M) f) (hc : c < 6) : ∀ k, k ≠ 1 → mI (wI (wI (wI (wI (wI (wI (wCpI (wCpI M (f 8) (f (2 + c)) 0 0 10) (f 16) (f (10 + c)) 0 0 10) (f 17) c (nI (un τ 24 6))) (f 18) c (nI (needN τ 6))) (f 19) c (nI d)) (f 17) 6 (nI 0)) (f 18) 6 (nI 0)) (f 0) 1 (nI 0)) (f 0) k = mI M (f 0) k := by
  intro k hk
  rw [wI_k hk, wI_a (hb.ne 0 18 rfl), wI_a (hb.ne 0 17 rfl), wI_a (hb.ne 0 19 rfl), wI_a (hb.ne 0 18 rfl), wI_a (hb.ne 0 17 rfl), mk_o hb (by decide) (.inl rfl) hc]
set_option maxHeartbeats 4000000 in
set_option maxRecDepth 100000 in
theorem c_X4_make (l : Launch) (hfl : l.flags = flags0) (G : gW) (M : Mem) (f : Nat → Nat) (hb : Blk tbEl (mK M) (mN M) (mR M) f) (τ : Mu) (hw : WF τ) (hf : ElF τ (mI M) f) (c d : Nat) (hc : c < 6) (hcn : c ≤ un τ 26 26) (hd : d < 64) : CT l yX4_make cX4_make 3 none 3 0 0 66 G M [.ref (f 0), .int (nI c), .int (nI d)] (fun v M' => v = none ∧ frm (fun a => a = f 0 ∨ a = f (2 + c) ∨ a = f (10 + c) ∨ a = f 17 ∨ a = f 18 ∨ a = f 19 ∨ a = f 20) M M' ∧ ElF (elU τ c d) (mI M') f) := by
  refine CT.of hfl rfl (Nat.le_of_ble_eq_true rfl) ?_
  intro pp ee ss mm ar bw mt cd C hgX hr hini
  have hne := hw.ne.2
  obtain ⟨he0, he1, hwd, hnm, hle, hnd, hse, hod⟩ := id hf
  refine V.eLo (lo' := [(0, .ref (f 0)), (1, .int (nI c)), (2, .int (nI d))]) rfl ?_
  refine r_iload_n C 1 dX4_make_0 rfl rfl ?_
  refine r_if_ltN C (t := 10) (by omega) dX4_make_1 (by decide) ?_
  refine r_iload_n C 1 dX4_make_4 rfl rfl ?_
  refine r_bipush C (v := nI 6) dX4_make_5 (by decide) ?_
  refine r_icmp_ltN C (t := 11) (by omega) (by omega) dX4_make_7 (by decide) (fun c7 => ?_) (fun c7 => ?_)
  · skip
    refine r_aload_n C 0 dX4_make_11 rfl rfl ?_
    refine r_getR C (b := (f 1)) fl_X4_13 rfl (hb.k 0 7 rfl) (hb.r 0 2 1 rfl) dX4_make_12 ?_
    refine r_bipush C (v := nI 6) dX4_make_15 (by decide) ?_
    refine r_aaloadN C (b := (f 8)) 4 (by decide) (hb.k 1 27 rfl) (hb.n 1 7 rfl) (by omega) (by omega) (hb.r 1 6 8 rfl) dX4_make_17 ?_
    refine r_iconst C (v := nI 0) dX4_make_18 (by decide) ?_
    refine r_aload_n C 0 dX4_make_19 rfl rfl ?_
    refine r_getR C (b := (f 1)) fl_X4_13 rfl (hb.k 0 7 rfl) (hb.r 0 2 1 rfl) dX4_make_20 ?_
    refine r_iload_n C 1 dX4_make_23 rfl rfl ?_
    refine r_aaloadN C (b := (f (2 + c))) 4 (by decide) (hb.k 1 27 rfl) (hb.n 1 7 rfl) (by omega) (by omega) (hb.ro 1 2 7 1 rfl c (by omega)) dX4_make_24 ?_
    refine r_iconst C (v := nI 0) dX4_make_25 (by decide) ?_
    refine r_bipush C (v := nI 10) dX4_make_26 (by decide) ?_
    refine r_cpI C ac_X4_50 (hb.k 8 20 rfl) (hb.ko 2 20 7 rfl c (by omega)) (hb.n 8 10 rfl) (hb.no 2 10 7 rfl c (by omega)) (by omega) (by omega) (by omega) (by omega) (Nat.le_of_ble_eq_true rfl) (Nat.le_of_ble_eq_true rfl) dX4_make_28 ?_
    refine r_aload_n C 0 dX4_make_31 rfl rfl ?_
    refine r_getR C (b := (f 9)) fl_X4_16 rfl (hb.k 0 7 rfl) (hb.r 0 3 9 rfl) dX4_make_32 ?_
    refine r_bipush C (v := nI 6) dX4_make_35 (by decide) ?_
    refine r_aaloadN C (b := (f 16)) 4 (by decide) (hb.k 9 27 rfl) (hb.n 9 7 rfl) (by omega) (by omega) (hb.r 9 6 16 rfl) dX4_make_37 ?_
    refine r_iconst C (v := nI 0) dX4_make_38 (by decide) ?_
    refine r_aload_n C 0 dX4_make_39 rfl rfl ?_
    refine r_getR C (b := (f 9)) fl_X4_16 rfl (hb.k 0 7 rfl) (hb.r 0 3 9 rfl) dX4_make_40 ?_
    refine r_iload_n C 1 dX4_make_43 rfl rfl ?_
    refine r_aaloadN C (b := (f (10 + c))) 4 (by decide) (hb.k 9 27 rfl) (hb.n 9 7 rfl) (by omega) (by omega) (hb.ro 9 10 7 1 rfl c (by omega)) dX4_make_44 ?_
    refine r_iconst C (v := nI 0) dX4_make_45 (by decide) ?_
    refine r_bipush C (v := nI 10) dX4_make_46 (by decide) ?_
    refine r_cpI C ac_X4_50 (hb.k 16 20 rfl) (hb.ko 10 20 7 rfl c (by omega)) (hb.n 16 10 rfl) (hb.no 10 10 7 rfl c (by omega)) (by omega) (by omega) (by omega) (by omega) (Nat.le_of_ble_eq_true rfl) (Nat.le_of_ble_eq_true rfl) dX4_make_48 ?_
    refine r_aload_n C 0 dX4_make_51 rfl rfl ?_
    refine r_getR C (b := (f 17)) fl_X4_19 rfl (hb.k 0 7 rfl) (hb.r 0 4 17 rfl) dX4_make_52 ?_
    refine r_iload_n C 1 dX4_make_55 rfl rfl ?_
    refine r_aload_n C 0 dX4_make_56 rfl rfl ?_
    refine r_getR C (b := (f 17)) fl_X4_19 rfl (hb.k 0 7 rfl) (hb.r 0 4 17 rfl) dX4_make_57 ?_
    refine r_bipush C (v := nI 6) dX4_make_60 (by decide) ?_
    refine r_ialoadN C (hb.k 17 20 rfl) (hb.n 17 7 rfl) (by omega) (by omega) dX4_make_62 ?_
    refine V.ei (y := nI (un τ 24 6)) ((congrFun (mk_o hb (by decide) (.inr (by decide)) hc) 6).trans (hle 6 (by decide))) ?_
    refine r_iastoreN C (hb.k 17 20 rfl) (hb.n 17 7 rfl) (by omega) (by omega) dX4_make_63 ?_
    refine r_aload_n C 0 dX4_make_64 rfl rfl ?_
    refine r_getR C (b := (f 18)) fl_X4_23 rfl (hb.k 0 7 rfl) (hb.r 0 5 18 rfl) dX4_make_65 ?_
    refine r_iload_n C 1 dX4_make_68 rfl rfl ?_
    refine r_aload_n C 0 dX4_make_69 rfl rfl ?_
    refine r_getR C (b := (f 18)) fl_X4_23 rfl (hb.k 0 7 rfl) (hb.r 0 5 18 rfl) dX4_make_70 ?_
    refine r_bipush C (v := nI 6) dX4_make_73 (by decide) ?_
    refine r_ialoadN C (hb.k 18 20 rfl) (hb.n 18 7 rfl) (by omega) (by omega) dX4_make_75 ?_
    refine V.ei (y := nI (needN τ 6)) ((congrFun (wI_a (hb.ne 18 17 rfl)) 6).trans ((congrFun (mk_o hb (by decide) (.inr (by decide)) hc) 6).trans (hnd 6 (by decide)))) ?_
    refine r_iastoreN C (hb.k 18 20 rfl) (hb.n 18 7 rfl) (by omega) (by omega) dX4_make_76 ?_
    refine r_aload_n C 0 dX4_make_77 rfl rfl ?_
    refine r_getR C (b := (f 19)) fl_X4_26 rfl (hb.k 0 7 rfl) (hb.r 0 6 19 rfl) dX4_make_78 ?_
    refine r_iload_n C 1 dX4_make_81 rfl rfl ?_
    refine r_iload_n C 2 dX4_make_82 rfl rfl ?_
    refine r_iastoreN C (hb.k 19 20 rfl) (hb.n 19 6 rfl) (by omega) (by omega) dX4_make_83 ?_
    refine r_aload_n C 0 dX4_make_84 rfl rfl ?_
    refine r_getR C (b := (f 17)) fl_X4_19 rfl (hb.k 0 7 rfl) (hb.r 0 4 17 rfl) dX4_make_85 ?_
    refine r_bipush C (v := nI 6) dX4_make_88 (by decide) ?_
    refine r_iconst C (v := nI 0) dX4_make_90 (by decide) ?_
    refine r_iastoreN C (hb.k 17 20 rfl) (hb.n 17 7 rfl) (by omega) (by omega) dX4_make_91 ?_
    refine r_aload_n C 0 dX4_make_92 rfl rfl ?_
    refine r_getR C (b := (f 18)) fl_X4_23 rfl (hb.k 0 7 rfl) (hb.r 0 5 18 rfl) dX4_make_93 ?_
    refine r_bipush C (v := nI 6) dX4_make_96 (by decide) ?_
    refine r_iconst C (v := nI 0) dX4_make_98 (by decide) ?_
    refine r_iastoreN C (hb.k 18 20 rfl) (hb.n 18 7 rfl) (by omega) (by omega) dX4_make_99 ?_
    refine r_aload_n C 0 dX4_make_100 rfl rfl ?_
    refine r_iconst C (v := nI 0) dX4_make_101 (by decide) ?_
    refine r_putI C fl_X4_39 (hb.k 0 7 rfl) dX4_make_102 ?_
    refine r_aload_n C 0 dX4_make_105 rfl rfl ?_
    refine r_aload_n C 0 dX4_make_106 rfl rfl ?_
    refine r_getI C fl_X4_43 rfl (hb.k 0 7 rfl) dX4_make_107 ?_
    refine V.ei (y := nI (un τ 26 26)) ((mk_cz hb hc 0 (by decide)).trans he0) ?_
    refine r_iload_n C 1 dX4_make_110 rfl rfl ?_
    refine r_iconst C (v := nI 1) dX4_make_111 (by decide) ?_
    refine r_iaddN C dX4_make_112 ?_
    refine r_maxIN C km_X4_56 (by omega) (by omega) (Nat.le_of_ble_eq_true rfl) (Nat.le_of_ble_eq_true rfl) (by first | exact Nat.zero_le _ | decide) (by first | exact Nat.zero_le _ | decide) dX4_make_113 ?_
    refine r_putI C fl_X4_43 (hb.k 0 7 rfl) dX4_make_116 ?_
    refine r_aload_n C 0 dX4_make_119 rfl rfl ?_
    refine r_callV C hgX (ci := 6) ml_X4_62 im_X4_arrange se_X4_arrange rfl rfl (show mK (wI (wI (wI (wI (wI (wI (wI (wCpI (wCpI M (f 8) (f (2 + c)) 0 0 10) (f 16) (f (10 + c)) 0 0 10) (f 17) c (nI (un τ 24 6))) (f 18) c (nI (needN τ 6))) (f 19) c (nI d)) (f 17) 6 (nI 0)) (f 18) 6 (nI 0)) (f 0) 1 (nI 0)) (f 0) 0 (nI (max (un τ 26 26) (c + 1)))) (f 0) = 6 + 1 from (hb.k 0 7 rfl)) (c_X4_arrange l hfl G (wI (wI (wI (wI (wI (wI (wI (wCpI (wCpI M (f 8) (f (2 + c)) 0 0 10) (f 16) (f (10 + c)) 0 0 10) (f 17) c (nI (un τ 24 6))) (f 18) c (nI (needN τ 6))) (f 19) c (nI d)) (f 17) 6 (nI 0)) (f 18) 6 (nI 0)) (f 0) 1 (nI 0)) (f 0) 0 (nI (max (un τ 26 26) (c + 1)))) f hb (elS τ c d) (elS_lt hw hcn hc).1 (by rw [mk_cnt hw hcn]; exact wI_i) (fun e he => mk_need hw hb hf hc e (by omega)) (fun e he => needN_lt (elS_e hw hcn hc) (by omega))) rfl (Nat.le_of_ble_eq_true rfl) ⟨Nat.le_of_ble_eq_true rfl, Nat.le_of_ble_eq_true rfl⟩ ⟨Nat.le_of_ble_eq_true rfl, Nat.le_of_ble_eq_true rfl⟩ dX4_make_120 rfl ?_
    rintro _ My1 ⟨rfl, hfm, hs⟩
    exact r_vret C hr (⟨rfl, ((frm.rf _ _).cp (.inr (.inl rfl)) |>.cp (.inr (.inr (.inl rfl))) |>.wi _ _ (.inr (.inr (.inr (.inl rfl)))) |>.wi _ _ (.inr (.inr (.inr (.inr (.inl rfl))))) |>.wi _ _ (.inr (.inr (.inr (.inr (.inr (.inl rfl)))))) |>.wi _ _ (.inr (.inr (.inr (.inl rfl)))) |>.wi _ _ (.inr (.inr (.inr (.inr (.inl rfl))))) |>.wi _ _ (.inl rfl) |>.wi _ _ (.inl rfl) |>.tr (hfm.mono (fun a h => .inr (.inr (.inr (.inr (.inr (.inr h)))))))), mk_elf hw hb hf hc hcn hfm hs hd⟩) (by first | exact Nat.zero_le _ | decide) (by first | exact Nat.zero_le _ | decide) dX4_make_123
  · exact absurd hc (by omega)

