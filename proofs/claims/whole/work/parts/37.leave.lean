/-! THE REFERENCE: leave, grossFor -/
def gfB (τ : Mu) (A p m : Nat) (due : Int64) (i : Nat) : Bool := decide (due ≤ ntL (sI τ 30 A (τ.1 30 A + nI (10000 * (i + 1)))) p m)
def gfO (τ : Mu) (A p m : Nat) (due : Int64) : Int32 := match fstN (gfB τ A p m due) 200 with | some i => nI (10000 * (i + 1)) | none => -1
def gfX (τ : Mu) (A p m : Nat) (due : Int64) (j : Nat) (x : Int32) : Prop := (x = -1 ∧ ∀ i, i < j → gfB τ A p m due i = false) ∨ ∃ i, x = nI (10000 * (i + 1)) ∧ j = i + 1 ∧ gfB τ A p m due i = true ∧ ∀ k, k < i → gfB τ A p m due k = false
theorem gfX_end {τ : Mu} {A p m j : Nat} {due : Int64} {x : Int32} (h : gfX τ A p m due j x) (hj : j ≤ 200) (he : j = 200 ∨ 0 ≤ x) : x = gfO τ A p m due := by
  rcases h with ⟨h1, h2⟩ | ⟨i, h1, h2, h3, h4⟩
  · rcases he with he | he
    · unfold gfO; rw [fst_none (fun k hk => h2 k (by omega))]; exact h1
    · rw [h1] at he; exact absurd he (by decide)
  · unfold gfO; rw [fst_some h3 h4 (by omega)]; exact h1
/-- agrees with τ but at one place of the bonuses -/
def offB (τ σ : Mu) (A : Nat) : Prop := σ.2 = τ.2 ∧ ∀ k x, ¬ (k = 30 ∧ x = A) → σ.1 k x = τ.1 k x
theorem offB.set {τ σ : Mu} {A : Nat} (h : offB τ σ A) (v : Int32) : sI σ 30 A v = sI τ 30 A v := by
  unfold sI
  refine Prod.ext (funext fun k => funext fun x => ?_) h.1
  show (if k = 30 then (if x = A then v else σ.1 k x) else σ.1 k x) = (if k = 30 then (if x = A then v else τ.1 k x) else τ.1 k x)
  by_cases e : k = 30
  · rw [if_pos e, if_pos e]
    by_cases z : x = A
    · rw [if_pos z, if_pos z]
    · rw [if_neg z, if_neg z]; exact h.2 k x (fun q => z q.2)
  · rw [if_neg e, if_neg e]; exact h.2 k x (fun q => e q.1)
theorem offB.rf (τ : Mu) (A : Nat) : offB τ τ A := ⟨rfl, fun _ _ _ => rfl⟩
theorem offB.of (τ : Mu) (A : Nat) (v : Int32) : offB τ (sI τ 30 A v) A := ⟨rfl, fun k x h => by
  show (if k = 30 then (if x = A then v else τ.1 k x) else τ.1 k x) = _
  by_cases e : k = 30
  · rw [if_pos e, if_neg (fun z => h ⟨e, z⟩)]
  · rw [if_neg e]⟩
theorem sI_back (τ : Mu) (A : Nat) : sI τ 30 A (τ.1 30 A) = τ := by
  unfold sI
  refine Prod.ext (funext fun k => funext fun x => ?_) rfl
  show (if k = 30 then (if x = A then τ.1 30 A else τ.1 k x) else τ.1 k x) = τ.1 k x
  by_cases e : k = 30
  · rw [if_pos e]
    by_cases z : x = A
    · rw [if_pos z, e, z]
    · rw [if_neg z]
  · rw [if_neg e]
theorem bo_add {b : Int32} {n : Nat} (h1 : -10000000 ≤ b.toInt) (h2 : b.toInt ≤ 10000000) (hn : n ≤ 2000000) : -10000000 ≤ (b + nI n).toInt ∧ (b + nI n).toInt ≤ 12000000 := by
  rw [Int32.toInt_add, nI_toInt (by omega)]
  rw [Int.bmod_eq_of_le (by omega) (by omega)]
  omega
def BO (τ : Mu) : Prop := ∀ i, i < 432 → -10000000 ≤ (τ.1 30 i).toInt ∧ (τ.1 30 i).toInt ≤ 10000000

set_option maxHeartbeats 4000000 in
set_option maxRecDepth 100000 in
theorem c_X12_leave (l : Launch) (hfl : l.flags = flags0) (G : gW) (M : Mem) (mb : Nat) (τ : Mu) (hm : MOK (mK M) (mN M) (mR M) mb) (ht : TE (mI M) (mL M) mb τ) (hw : WF τ) (htb : TEb (mI M) (mL M) mb τ) (hlb : LTB M mb) (x y : Int32) : CT l yX12_leave cX12_leave 3 (some .boolean) 3 0 0 77 G M [.ref mb, .int x, .int y] (fun v M' => PP mb M τ (cd2 (isOfB τ x y) (decide (un τ 17 17 ≠ 30))) ((sI (sI (sI τ 14 (un τ 17 17) x) 15 (un τ 17 17) y) 17 17 (nI (un τ 17 17 + 1)))) (some (.int (bI (decide (ltN (sI (sI (sI τ 14 (un τ 17 17) x) 15 (un τ 17 17) y) 17 17 (nI (un τ 17 17 + 1))) (un τ 17 17) = 1))))) v M') := by
  refine CT.of hfl rfl (Nat.le_of_ble_eq_true rfl) ?_
  intro pp ee ss mm ar bw mt cd C hgX hr hini
  have hnc := hw.nc.2
  have hsh := hw.sh.2
  have hnl := hw.nl.2
  have hne := hw.ne.2
  have hng := hw.ng.2
  have hop := hw.op.2
  have hnp := hw.np.2
  have ht0 := ht
  have hm0 := hm
  have htb0 := htb
  have hfo := fOut.rf [67, 14, 15, 16, 17, 21] mb M
  refine V.eLo (lo' := [(0, .ref mb), (1, .int x), (2, .int y)]) rfl ?_
  refine r_aload_n C 0 dX12_leave_0 rfl rfl ?_
  have jn28 : V pp l ee ({ frames := 3, cells := 0, slots := 0, locals := 77 } : Room) ss mm ar bw mt cd G (MQ bw (Ke G (fun v M' => PP mb M τ (cd2 (isOfB τ x y) (decide (un τ 17 17 ≠ 30))) ((sI (sI (sI τ 14 (un τ 17 17) x) 15 (un τ 17 17) y) 17 17 (nI (un τ 17 17 + 1)))) (some (.int (bI (decide (ltN (sI (sI (sI τ 14 (un τ 17 17) x) 15 (un τ 17 17) y) 17 17 (nI (un τ 17 17 + 1))) (un τ 17 17) = 1))))) v M')) ar ss 0 0 (gA G)) 3 M 0 0 28 [(0, .ref mb), (1, .int x), (2, .int y)] [.int (nI (cd2 (isOfB τ x y) (decide (un τ 17 17 ≠ 30)))), .ref mb] := by
    skip
    refine r_callV C hgX (ci := 14) ml_X12_227 im_X12_holds se_X12_holds rfl rfl hm.k (c_X12_holds l hfl G M mb hm (nI (cd2 (isOfB τ x y) (decide (un τ 17 17 ≠ 30))))) rfl (Nat.le_of_ble_eq_true rfl) ⟨Nat.le_of_ble_eq_true rfl, Nat.le_of_ble_eq_true rfl⟩ ⟨Nat.le_of_ble_eq_true rfl, Nat.le_of_ble_eq_true rfl⟩ dX12_leave_28 rfl ?_
    rintro _ _ ⟨rfl, rfl⟩
    refine V.eSt (st' := [.int (bI (decide (0 < nI (cd2 (isOfB τ x y) (decide (un τ 17 17 ≠ 30))))))]) rfl ?_
    refine V.ei (y := bI (decide ((cd2 (isOfB τ x y) (decide (un τ 17 17 ≠ 30))) ≠ 0))) (congrArg bI (hold_d (cd2_le _ _))) ?_
    have hfo := hfo.set0 67 (nI (cd2 (isOfB τ x y) (decide (un τ 17 17 ≠ 30)))) rfl
    have ht := ht.ws 67 (nI (cd2 (isOfB τ x y) (decide (un τ 17 17 ≠ 30)))) rfl rfl
    have htb := ((fOut.rf [67] mb _).set0 67 (nI (cd2 (isOfB τ x y) (decide (un τ 17 17 ≠ 30)))) rfl).tb rfl htb
    have h67 : mI (wI M mb 67 (nI (cd2 (isOfB τ x y) (decide (un τ 17 17 ≠ 30))))) mb 67 = nI (cd2 (isOfB τ x y) (decide (un τ 17 17 ≠ 30))) := up2_same _ _ _ _
    have hlb : LTB (wI M mb 67 (nI (cd2 (isOfB τ x y) (decide (un τ 17 17 ≠ 30))))) mb := hlb.ws 67 _
    refine r_if_eqB C (t := 36) dX12_leave_31 (by decide) (fun c31 => ?_) (fun c31 => ?_)
    · skip
      have c31d := of_decide_eq_false c31
      have hC : (cd2 (isOfB τ x y) (decide (un τ 17 17 ≠ 30))) = 0 := by have := c31d; omega
      obtain ⟨h1, h2⟩ := cd2_0 hC
      have h2d : un τ 17 17 ≠ 30 := of_decide_eq_true h2
      obtain ⟨c, d, hc, hd1, hd2, e_x, e_y⟩ := isOfB_t hw h1
      have hct := (hw.ct c hc).2
      have hUU : sI (sI (sI τ 14 (un τ 17 17) (nI c)) 15 (un τ 17 17) (nI d)) 17 17 (nI (un τ 17 17 + 1)) = sI (sI (sI τ 14 (un τ 17 17) x) 15 (un τ 17 17) y) 17 17 (nI (un τ 17 17 + 1)) := by rw [e_x, e_y]
      have hwU := wf_leave hw h2d hc hd1 hd2
      have e17 : un (sI (sI (sI τ 14 (un τ 17 17) (nI c)) 15 (un τ 17 17) (nI d)) 17 17 (nI (un τ 17 17 + 1))) 17 17 = un τ 17 17 + 1 := nI_clamp (by omega)
      have e14 : un (sI (sI (sI τ 14 (un τ 17 17) (nI c)) 15 (un τ 17 17) (nI d)) 17 17 (nI (un τ 17 17 + 1))) 14 (un τ 17 17) = c := un_of (sI_s (τ := τ) (k := 14) (x := un τ 17 17) (v := nI c)) (by omega)
      refine V.eLo (lo' := [(0, .ref mb), (1, .int (nI c)), (2, .int (nI d))]) (by rw [e_x, e_y]) ?_
      refine r_aload_n C 0 dX12_leave_36 rfl rfl ?_
      refine r_getR C (b := (ma mb 14)) fl_X12_46 rfl hm.k (hm.r 14 rfl) dX12_leave_37 ?_
      refine r_aload_n C 0 dX12_leave_40 rfl rfl ?_
      refine r_getI C fl_X12_269 rfl hm.k dX12_leave_41 ?_
      refine V.ei (y := nI (un τ 17 17)) ((ht.s 17 rfl).trans hw.nl.1) ?_
      refine r_iload_n C 1 dX12_leave_44 rfl rfl ?_
      refine r_iastoreN C (hm.i 14 20 rfl) (hm.n 14 30 rfl) (by omega) (by omega) dX12_leave_45 ?_
      have htb := ((fOut.rf [14] mb _).setI 14 (un τ 17 17) (nI c) rfl).tb rfl htb
      have hlb : LTB (wI (wI M mb 67 (nI (cd2 (isOfB τ x y) (decide (un τ 17 17 ≠ 30))))) (ma mb 14) (un τ 17 17) (nI c)) mb := hlb.wi 14 _ _ rfl
      have hfo := hfo.setI 14 (un τ 17 17) (nI c) rfl
      have h67 : mI (wI (wI M mb 67 (nI (cd2 (isOfB τ x y) (decide (un τ 17 17 ≠ 30))))) (ma mb 14) (un τ 17 17) (nI c)) mb 67 = _ := (up2_a _ _ (ma_0 rfl).symm).trans h67
      have ht := ht.ui 14 (un τ 17 17) (nI c) rfl
      refine r_aload_n C 0 dX12_leave_46 rfl rfl ?_
      refine r_getR C (b := (ma mb 15)) fl_X12_49 rfl hm.k (hm.r 15 rfl) dX12_leave_47 ?_
      refine r_aload_n C 0 dX12_leave_50 rfl rfl ?_
      refine r_getI C fl_X12_269 rfl hm.k dX12_leave_51 ?_
      refine V.ei (y := nI (un τ 17 17)) ((ht.s 17 rfl).trans hw.nl.1) ?_
      refine r_iload_n C 2 dX12_leave_54 rfl rfl ?_
      refine r_iastoreN C (hm.i 15 20 rfl) (hm.n 15 30 rfl) (by omega) (by omega) dX12_leave_55 ?_
      have htb := ((fOut.rf [15] mb _).setI 15 (un τ 17 17) (nI d) rfl).tb rfl htb
      have hlb : LTB (wI (wI (wI M mb 67 (nI (cd2 (isOfB τ x y) (decide (un τ 17 17 ≠ 30))))) (ma mb 14) (un τ 17 17) (nI c)) (ma mb 15) (un τ 17 17) (nI d)) mb := hlb.wi 15 _ _ rfl
      have hfo := hfo.setI 15 (un τ 17 17) (nI d) rfl
      have h67 : mI (wI (wI (wI M mb 67 (nI (cd2 (isOfB τ x y) (decide (un τ 17 17 ≠ 30))))) (ma mb 14) (un τ 17 17) (nI c)) (ma mb 15) (un τ 17 17) (nI d)) mb 67 = _ := (up2_a _ _ (ma_0 rfl).symm).trans h67
      have ht := ht.ui 15 (un τ 17 17) (nI d) rfl
      refine r_aload_n C 0 dX12_leave_56 rfl rfl ?_
      refine r_dup C dX12_leave_57 rfl ?_
      refine r_getI C fl_X12_269 rfl hm.k dX12_leave_58 ?_
      refine V.ei (y := nI (un τ 17 17)) ((ht.s 17 rfl).trans hw.nl.1) ?_
      refine r_iconst C (v := nI 1) dX12_leave_61 (by decide) ?_
      refine r_iaddN C dX12_leave_62 ?_
      refine r_putI C fl_X12_269 hm.k dX12_leave_63 ?_
      have htb := ((fOut.rf [17] mb _).set0 17 (nI (un τ 17 17 + 1)) rfl).tb rfl htb
      have hlb : LTB (wI (wI (wI (wI M mb 67 (nI (cd2 (isOfB τ x y) (decide (un τ 17 17 ≠ 30))))) (ma mb 14) (un τ 17 17) (nI c)) (ma mb 15) (un τ 17 17) (nI d)) mb 17 (nI (un τ 17 17 + 1))) mb := hlb.ws 17 _
      have hfo := hfo.set0 17 (nI (un τ 17 17 + 1)) rfl
      have h67 : mI (wI (wI (wI (wI M mb 67 (nI (cd2 (isOfB τ x y) (decide (un τ 17 17 ≠ 30))))) (ma mb 14) (un τ 17 17) (nI c)) (ma mb 15) (un τ 17 17) (nI d)) mb 17 (nI (un τ 17 17 + 1))) mb 67 = _ := (up2_k _ _ (by decide)).trans h67
      have ht := ht.us 17 (nI (un τ 17 17 + 1)) rfl
      refine r_aload_n C 0 dX12_leave_66 rfl rfl ?_
      refine r_aload_n C 0 dX12_leave_67 rfl rfl ?_
      refine r_getR C (b := (ma mb 0)) fl_X12_7 rfl hm.k (hm.r 0 rfl) dX12_leave_68 ?_
      refine r_iload_n C 1 dX12_leave_71 rfl rfl ?_
      refine r_ialoadN C (hm.i 0 20 rfl) (hm.n 0 10 rfl) (by omega) (by omega) dX12_leave_72 ?_
      refine V.ei (y := nI (un τ 0 c)) ((ht.i 0 rfl _).trans (hw.cw c (by omega)).1) ?_
      have hb1 := (hw.cw c (by omega)).2
      refine r_sipush C (v := nI 720) dX12_leave_73 (by decide) ?_
      refine r_callV C hgX (ci := 14) ml_X12_277 im_X12_takes se_X12_takes rfl rfl (show mK (wI (wI (wI (wI M mb 67 (nI (cd2 (isOfB τ x y) (decide (un τ 17 17 ≠ 30))))) (ma mb 14) (un τ 17 17) (nI c)) (ma mb 15) (un τ 17 17) (nI d)) mb 17 (nI (un τ 17 17 + 1))) mb = 14 + 1 from hm.k) (c_X12_takes l hfl G (wI (wI (wI (wI M mb 67 (nI (cd2 (isOfB τ x y) (decide (un τ 17 17 ≠ 30))))) (ma mb 14) (un τ 17 17) (nI c)) (ma mb 15) (un τ 17 17) (nI d)) mb 17 (nI (un τ 17 17 + 1))) mb (sI (sI (sI τ 14 (un τ 17 17) (nI c)) 15 (un τ 17 17) (nI d)) 17 17 (nI (un τ 17 17 + 1))) hm ht hwU (un τ 0 c) 720 (by omega) (by omega)) rfl (Nat.le_of_ble_eq_true rfl) ⟨Nat.le_of_ble_eq_true rfl, Nat.le_of_ble_eq_true rfl⟩ ⟨Nat.le_of_ble_eq_true rfl, Nat.le_of_ble_eq_true rfl⟩ dX12_leave_76 rfl ?_
      rintro _ My3 ⟨rfl, hfo3, htk3, htl3, hlf3⟩
      have hm := hfo3.ok hm
      have ht := hfo3.te rfl ht
      have htb := hfo3.tb rfl htb
      obtain ⟨lt, hlt, hlp⟩ := sl_lt (τ := sI (sI (sI τ 14 (un τ 17 17) (nI c)) 15 (un τ 17 17) (nI d)) 17 17 (nI (un τ 17 17 + 1))) hwU.nl.2 hlb htk3 htl3
      have hlb : LTB My3 mb := ⟨lt, hlt⟩
      have h67 := (hfo3.s 67 rfl).trans h67
      have hfo := hfo.tr (hfo3.mono rfl)
      have hll : lt (un τ 17 17) = ltN (sI (sI (sI τ 14 (un τ 17 17) (nI c)) 15 (un τ 17 17) (nI d)) 17 17 (nI (un τ 17 17 + 1))) (un τ 17 17) := hlp (un τ 17 17) (by rw [e17]; omega) (by rw [e14]; rfl)
      have hlv : mI My3 (ma mb 16) (un τ 17 17) = nI (ltN (sI (sI (sI τ 14 (un τ 17 17) (nI c)) 15 (un τ 17 17) (nI d)) 17 17 (nI (un τ 17 17 + 1))) (un τ 17 17)) := by rw [← hll]; exact (hlt _ (by omega)).1
      have hlN := ltN_le (sI (sI (sI τ 14 (un τ 17 17) (nI c)) 15 (un τ 17 17) (nI d)) 17 17 (nI (un τ 17 17 + 1))) (un τ 17 17)
      refine r_aload_n C 0 dX12_leave_79 rfl rfl ?_
      refine r_getR C (b := (ma mb 16)) fl_X12_52 rfl hm.k (hm.r 16 rfl) dX12_leave_80 ?_
      refine r_aload_n C 0 dX12_leave_83 rfl rfl ?_
      refine r_getI C fl_X12_269 rfl hm.k dX12_leave_84 ?_
      refine V.ei (y := nI (un τ 17 17 + 1)) ((ht.s 17 rfl).trans rfl) ?_
      refine r_iconst C (v := nI 1) dX12_leave_87 (by decide) ?_
      refine r_isubN C (by omega) dX12_leave_88 ?_
      refine r_ialoadN C (hm.i 16 20 rfl) (hm.n 16 30 rfl) (by omega) (by omega) dX12_leave_89 ?_
      refine V.ei (y := nI (ltN (sI (sI (sI τ 14 (un τ 17 17) (nI c)) 15 (un τ 17 17) (nI d)) 17 17 (nI (un τ 17 17 + 1))) (un τ 17 17))) (hlv) ?_
      refine r_iconst C (v := nI 1) dX12_leave_90 (by decide) ?_
      refine r_icmp_neN C (t := 98) (by omega) (by omega) dX12_leave_91 (by decide) (fun c91 => ?_) (fun c91 => ?_)
      · skip
        refine r_iconst C (v := nI 0) dX12_leave_98 (by decide) ?_
        exact r_zret C hr (by decide) (⟨h67, hfo.mo, hlb, fun q => absurd hC q, fun _ => ⟨by rw [← hUU, decide_eq_false c91]; rfl, by rw [← (show (sI (sI (sI τ 14 (un τ 17 17) (nI c)) 15 (un τ 17 17) (nI d)) 17 17 (nI (un τ 17 17 + 1))) = (sI (sI (sI τ 14 (un τ 17 17) x) 15 (un τ 17 17) y) 17 17 (nI (un τ 17 17 + 1))) by rw [e_x, e_y])]; exact ht, htb.cg rfl rfl (fun _ => ⟨rfl, rfl⟩) (fun _ => ⟨rfl, rfl⟩) (fun _ => ⟨rfl, rfl⟩) (fun _ => ⟨rfl, rfl⟩) (fun _ => ⟨rfl, rfl⟩) (fun _ => ⟨rfl, rfl⟩) (fun _ => ⟨rfl, rfl⟩) ⟩, by first | exact KD.i | exact KD.l | exact KD.n⟩) (by first | exact Nat.zero_le _ | decide) (by first | exact Nat.zero_le _ | decide) dX12_leave_99
      · skip
        refine r_iconst C (v := nI 1) dX12_leave_94 (by decide) ?_
        refine r_goto C (t := 99) dX12_leave_95 (by decide) ?_
        exact r_zret C hr (by decide) (⟨h67, hfo.mo, hlb, fun q => absurd hC q, fun _ => ⟨by rw [← hUU, decide_eq_true c91]; rfl, by rw [← (show (sI (sI (sI τ 14 (un τ 17 17) (nI c)) 15 (un τ 17 17) (nI d)) 17 17 (nI (un τ 17 17 + 1))) = (sI (sI (sI τ 14 (un τ 17 17) x) 15 (un τ 17 17) y) 17 17 (nI (un τ 17 17 + 1))) by rw [e_x, e_y])]; exact ht, htb.cg rfl rfl (fun _ => ⟨rfl, rfl⟩) (fun _ => ⟨rfl, rfl⟩) (fun _ => ⟨rfl, rfl⟩) (fun _ => ⟨rfl, rfl⟩) (fun _ => ⟨rfl, rfl⟩) (fun _ => ⟨rfl, rfl⟩) (fun _ => ⟨rfl, rfl⟩) ⟩, by first | exact KD.i | exact KD.l | exact KD.n⟩) (by first | exact Nat.zero_le _ | decide) (by first | exact Nat.zero_le _ | decide) dX12_leave_99
    · skip
      have c31d := of_decide_eq_true c31
      have hC : (cd2 (isOfB τ x y) (decide (un τ 17 17 ≠ 30))) ≠ 0 := c31d
      refine r_iconst C (v := nI 0) dX12_leave_34 (by decide) ?_
      exact r_zret C hr (by decide) (⟨h67, hfo.mo, hlb, fun _ => ⟨ht, htb⟩, fun q => absurd q hC, by first | exact KD.i | exact KD.l | exact KD.n⟩) (by first | exact Nat.zero_le _ | decide) (by first | exact Nat.zero_le _ | decide) dX12_leave_35
  refine r_aload_n C 0 dX12_leave_1 rfl rfl ?_
  refine r_iload_n C 1 dX12_leave_2 rfl rfl ?_
  refine r_iload_n C 2 dX12_leave_3 rfl rfl ?_
  refine r_callV C hgX (ci := 14) ml_X12_245 im_X12_isOf se_X12_isOf rfl rfl hm.k (c_X12_isOf l hfl G M mb τ hm ht hw x y) rfl (Nat.le_of_ble_eq_true rfl) ⟨Nat.le_of_ble_eq_true rfl, Nat.le_of_ble_eq_true rfl⟩ ⟨Nat.le_of_ble_eq_true rfl, Nat.le_of_ble_eq_true rfl⟩ dX12_leave_4 rfl ?_
  rintro _ _ ⟨rfl, rfl⟩
  refine V.eSt (st' := [.int (bI (isOfB τ x y)), .ref mb]) rfl ?_
  refine r_if_neB C (t := 14) dX12_leave_7 (by decide) (fun c7 => ?_) (fun c7 => ?_)
  · skip
    refine r_aload_n C 0 dX12_leave_14 rfl rfl ?_
    refine r_getI C fl_X12_269 rfl hm.k dX12_leave_15 ?_
    refine V.ei (y := nI (un τ 17 17)) ((ht.s 17 rfl).trans hw.nl.1) ?_
    refine r_bipush C (v := nI 30) dX12_leave_18 (by decide) ?_
    refine r_icmp_neN C (t := 27) (by omega) (by omega) dX12_leave_20 (by decide) (fun c20 => ?_) (fun c20 => ?_)
    · skip
      refine r_iconst C (v := nI 0) dX12_leave_27 (by decide) ?_
      refine V.ei (y := nI (cd2 (isOfB τ x y) (decide (un τ 17 17 ≠ 30)))) (congrArg nI (by simp only [c7, decide_eq_true c20] <;> rfl)) ?_
      exact jn28
    · skip
      refine r_iconst C (v := nI 2) dX12_leave_23 (by decide) ?_
      refine r_goto C (t := 28) dX12_leave_24 (by decide) ?_
      refine V.ei (y := nI (cd2 (isOfB τ x y) (decide (un τ 17 17 ≠ 30)))) (congrArg nI (by simp only [c7, show decide (un τ 17 17 ≠ 30) = false from decide_eq_false (fun q => q c20)] <;> rfl)) ?_
      exact jn28
  · skip
    refine r_iconst C (v := nI 1) dX12_leave_10 (by decide) ?_
    refine r_goto C (t := 28) dX12_leave_11 (by decide) ?_
    refine V.ei (y := nI (cd2 (isOfB τ x y) (decide (un τ 17 17 ≠ 30)))) (congrArg nI (by simp only [c7] <;> rfl)) ?_
    exact jn28
