/-! THE LAW: the class's methods, their throws caught -/
def LQ (τ : Mu) (α : Nat → Nat) (ao : Nat) (M M' : Mem) : Prop := ∀ a, mK M a ≠ 0 → mK M a ≠ 26 → (∀ k, LV τ k → a ≠ α k) → mK M' a = mK M a ∧ mN M' a = mN M a ∧ mI M' a = mI M a ∧ (a ≠ ao → mL M' a = mL M a) ∧ mR M' a = mR M a
theorem LQ.cl {τ : Mu} {α : Nat → Nat} {ao : Nat} {M : Mem} : LQ τ α ao M (mCl M) := fun _ h _ _ => ⟨rfl, mCl_n h, rfl, fun _ => rfl, rfl⟩
theorem LQ.of {τ : Mu} {α : Nat → Nat} {ao : Nat} {M M' : Mem} {v : Int64} (h : CF τ α M M') : LQ τ α ao M (wL M' ao 0 v) := fun a h1 h2 h3 => by
  obtain ⟨a1, a2, a3, a4, a5⟩ := h a h1 h2 h3
  exact ⟨a1, a2, a3, fun e => (wL_a e).trans a4, a5⟩
theorem LQ.of0 {τ : Mu} {α : Nat → Nat} {ao : Nat} {M M' : Mem} (h : CF τ α M M') : LQ τ α ao M M' := fun a h1 h2 h3 => by
  obtain ⟨a1, a2, a3, a4, a5⟩ := h a h1 h2 h3
  exact ⟨a1, a2, a3, fun _ => a4, a5⟩
/-- what the law's words for a method answer -/
def LPo (τ : Mu) (G : gW) (α : Nat → Nat) (M : Mem) (ao C : Nat) (U : Mu) (R : Option Int64) (v : Option Value) (M' : Mem) : Prop :=
  v = some (.int (nI C)) ∧ (C = 0 → ∀ x, R = some x → mL M' ao 0 = x) ∧ ∃ β, WD (if C = 0 then U else τ) G β M' ∧ β 0 = α 0 ∧ LQ τ α ao M M' ∧ XO τ α M (if C = 0 then U else τ) β
theorem cd1_c (a : Bool) : cd1 a = 0 ∨ cd1 a = 1 := by cases a <;> simp [cd1]
theorem cd2_c (a b : Bool) : cd2 a b = 0 ∨ cd2 a b = 1 ∨ cd2 a b = 2 := by cases a <;> cases b <;> simp [cd2]
theorem cd3_c (a b c : Bool) : cd3 a b c = 0 ∨ cd3 a b c = 1 ∨ cd3 a b c = 2 ∨ cd3 a b c = 3 := by cases a <;> cases b <;> cases c <;> simp [cd3]
theorem ao_fr {ao : Nat} {M : Mem} {v : Int64} : frm (fun a => a = ao) M (wL M ao 0 v) := (frm.rf _ M).wl 0 v rfl
set_option maxHeartbeats 1000000 in
set_option maxRecDepth 100000 in
theorem c_L_contract (l : Launch) (hfl : l.flags = flags0) (G : gW) (M : Mem) (τ : Mu) (hw : WF τ) (α : Nat → Nat) (hws : WS τ G α M) (hwt : WT τ α M) (hwb : WB τ α M) (had : ∀ p, p < 6 → AD τ p) (x y z t : Int32) (b : Bool) (n u : Int32) (hn6 : un τ 9 9 ≠ 10 → ∀ d, d < 720 → τ.1 6 (720 * un τ 9 9 + d) = -1) (ao : Nat) (hao : mK M ao = 21) (hao1 : mN M ao = 1) (han : ∀ k, LV τ k → ao ≠ α k) (hwU : (cd3 (rng x 6 && rng y 3 && rng z 720 && rng t 720) (decide (z ≤ t) && inB n (lN 60) (lN 600) && inB u (lN 0) (lN 1000000)) (decide (un τ 9 9 ≠ 10))) = 0 → WF (sI (spS (sI (sI (sI (sI (sI (sI (sI τ 0 (un τ 9 9) x) 1 (un τ 9 9) y) 2 (un τ 9 9) z) 3 (un τ 9 9) t) 4 (un τ 9 9) (bI b)) 5 (un τ 9 9) n) 6 (720 * un τ 9 9 + z.toNatClampNeg) u) (un τ 9 9) 720) 9 9 (nI (un τ 9 9 + 1)))) : CH l yL_contract cL_contract 10 (some .int) [(0, 20, 23, 13), (0, 20, 27, 15), (0, 20, 31, 17)] 8 15 2947 257 G M [.ref (α 0), .int x, .int y, .int z, .int t, .int (bI b), .int n, .int u, .ref ao] (fun v M' => LPo τ G α M ao (cd3 (rng x 6 && rng y 3 && rng z 720 && rng t 720) (decide (z ≤ t) && inB n (lN 60) (lN 600) && inB u (lN 0) (lN 1000000)) (decide (un τ 9 9 ≠ 10))) (sI (spS (sI (sI (sI (sI (sI (sI (sI τ 0 (un τ 9 9) x) 1 (un τ 9 9) y) 2 (un τ 9 9) z) 3 (un τ 9 9) t) 4 (un τ 9 9) (bI b)) 5 (un τ 9 9) n) 6 (720 * un τ 9 9 + z.toNatClampNeg) u) (un τ 9 9) 720) 9 9 (nI (un τ 9 9 + 1))) (some ((nI (un τ 9 9)).toInt64)) v M') := by
  refine CH.of hfl rfl (Nat.le_of_ble_eq_true rfl) ?_
  intro pp ee ss mm ar bw mt cd C hgX hr htab
  refine V.eLo (lo' := [(0, .ref (α 0)), (1, .int x), (2, .int y), (3, .int z), (4, .int t), (5, .int (bI b)), (6, .int n), (7, .int u), (8, .ref ao)]) rfl ?_
  refine r_aload C 8 dL_contract_0 rfl ?_
  refine r_iconst C (v := nI 0) dL_contract_2 (by decide) ?_
  refine r_aload_n C 0 dL_contract_3 rfl rfl ?_
  refine r_iload_n C 1 dL_contract_4 rfl rfl ?_
  refine r_iload_n C 2 dL_contract_5 rfl rfl ?_
  refine r_iload_n C 3 dL_contract_6 rfl rfl ?_
  refine r_iload C 4 dL_contract_7 rfl ?_
  refine r_iload C 5 dL_contract_9 rfl ?_
  refine r_iload C 6 dL_contract_11 rfl ?_
  refine r_iload C 7 dL_contract_13 rfl ?_
  refine r_xVc C hgX (ci := 13) ml_L_7 im_X11_contract se_X11_contract rfl rfl (hws.2.1.k 0 14 rfl) (c_X11_contract l hfl G M τ hw α hws hwt hwb had x y z t b n u hn6) rfl (Nat.le_of_ble_eq_true rfl) ⟨Nat.le_of_ble_eq_true rfl, Nat.le_of_ble_eq_true rfl⟩ ⟨Nat.le_of_ble_eq_true rfl, Nat.le_of_ble_eq_true rfl⟩ dL_contract_15 rfl (fun E_ M_ h_ => ?_) ?_
  · obtain ⟨hC0, rfl, rfl⟩ := h_
    rcases cd3_c (rng x 6 && rng y 3 && rng z 720 && rng t 720) (decide (z ≤ t) && inB n (lN 60) (lN 600) && inB u (lN 0) (lN 1000000)) (decide (un τ 9 9 ≠ 10)) with hC | hC | hC | hC
    · exact absurd hC hC0
    · refine ⟨23, ?_, fun q_ => ?_⟩
      · rw [hC]; exact ⟨[], ⟨0, 20, 23, 13⟩, [⟨0, 20, 27, 15⟩, ⟨0, 20, 31, 17⟩], htab, (fun z_ hz_ => absurd hz_ (List.not_mem_nil)), by decide, by decide, cl_L_13, hgX.2.2.2.2.2.1.1, rfl⟩
      · skip
        refine r_astore C (lo' := [(9, .ref q_), (0, .ref (α 0)), (1, .int x), (2, .int y), (3, .int z), (4, .int t), (5, .int (bI b)), (6, .int n), (7, .int u), (8, .ref ao)]) dL_contract_23 (by decide) rfl ?_
        refine r_iconst C (v := nI 1) dL_contract_25 (by decide) ?_
        refine V.xret ?_
        exact r_iret C hr (⟨by rw [hC], fun h_ => absurd h_ hC0, α, by rw [if_neg hC0]; exact WD.cl hw ⟨hws, hwt, hwb⟩, rfl, LQ.cl, by rw [if_neg hC0]; exact fun _ _ hz_ => hz_⟩) (by first | exact Nat.zero_le _ | decide) (by first | exact Nat.zero_le _ | decide) dL_contract_26
    · refine ⟨27, ?_, fun q_ => ?_⟩
      · rw [hC]; exact ⟨[⟨0, 20, 23, 13⟩], ⟨0, 20, 27, 15⟩, [⟨0, 20, 31, 17⟩], htab, (fun z_ hz_ => by rcases List.mem_cons.mp hz_ with rfl | hz_; exact ⟨by decide, _, cl_L_13, hgX.2.2.2.2.2.1.2.2.2.2.1 ("java/lang/IllegalArgumentException", "java/lang/IndexOutOfBoundsException") (by decide)⟩; exact absurd hz_ (List.not_mem_nil)), by decide, by decide, cl_L_15, hgX.2.2.2.2.2.1.2.1, rfl⟩
      · skip
        refine r_astore C (lo' := [(9, .ref q_), (0, .ref (α 0)), (1, .int x), (2, .int y), (3, .int z), (4, .int t), (5, .int (bI b)), (6, .int n), (7, .int u), (8, .ref ao)]) dL_contract_27 (by decide) rfl ?_
        refine r_iconst C (v := nI 2) dL_contract_29 (by decide) ?_
        refine V.xret ?_
        exact r_iret C hr (⟨by rw [hC], fun h_ => absurd h_ hC0, α, by rw [if_neg hC0]; exact WD.cl hw ⟨hws, hwt, hwb⟩, rfl, LQ.cl, by rw [if_neg hC0]; exact fun _ _ hz_ => hz_⟩) (by first | exact Nat.zero_le _ | decide) (by first | exact Nat.zero_le _ | decide) dL_contract_30
    · refine ⟨31, ?_, fun q_ => ?_⟩
      · rw [hC]; exact ⟨[⟨0, 20, 23, 13⟩, ⟨0, 20, 27, 15⟩], ⟨0, 20, 31, 17⟩, [], htab, (fun z_ hz_ => by rcases List.mem_cons.mp hz_ with rfl | hz_; exact ⟨by decide, _, cl_L_13, hgX.2.2.2.2.2.1.2.2.2.2.1 ("java/lang/IllegalStateException", "java/lang/IndexOutOfBoundsException") (by decide)⟩; rcases List.mem_cons.mp hz_ with rfl | hz_; exact ⟨by decide, _, cl_L_15, hgX.2.2.2.2.2.1.2.2.2.2.1 ("java/lang/IllegalStateException", "java/lang/IllegalArgumentException") (by decide)⟩; exact absurd hz_ (List.not_mem_nil)), by decide, by decide, cl_L_17, hgX.2.2.2.2.2.1.2.2.1, rfl⟩
      · skip
        refine r_astore C (lo' := [(9, .ref q_), (0, .ref (α 0)), (1, .int x), (2, .int y), (3, .int z), (4, .int t), (5, .int (bI b)), (6, .int n), (7, .int u), (8, .ref ao)]) dL_contract_31 (by decide) rfl ?_
        refine r_iconst C (v := nI 3) dL_contract_33 (by decide) ?_
        refine V.xret ?_
        exact r_iret C hr (⟨by rw [hC], fun h_ => absurd h_ hC0, α, by rw [if_neg hC0]; exact WD.cl hw ⟨hws, hwt, hwb⟩, rfl, LQ.cl, by rw [if_neg hC0]; exact fun _ _ hz_ => hz_⟩) (by first | exact Nat.zero_le _ | decide) (by first | exact Nat.zero_le _ | decide) dL_contract_34
  rintro _ My ⟨hC, rfl, be, hWD, hb0, hCF, hXO⟩
  have hoy := hCF ao (by rw [hao]; decide) (by rw [hao]; decide) han
  have hk21 : mK My ao = 21 := hoy.1.trans hao
  have hn21 : mN My ao = 1 := hoy.2.1.trans hao1
  refine V.eSt (st' := [.int (nI (un τ 9 9)), .int (nI 0), .ref ao]) rfl ?_
  refine r_i2l C dL_contract_18 ?_
  refine r_lastoreN C hk21 hn21 (by omega) (by omega) dL_contract_19 ?_
  refine r_goto C (t := 35) dL_contract_20 (by decide) ?_
  refine r_iconst C (v := nI 0) dL_contract_35 (by decide) ?_
  refine V.xret ?_
  exact r_iret C hr (⟨by rw [hC], fun _ x_ h_ => (by cases h_; exact wL_i), be, by rw [if_pos hC]; exact hWD.fr (hwU hC) ao_fr (fun k_ hk_ e_ => hXO ao (by rw [hao]; decide) han k_ hk_ e_.symm), hb0, LQ.of hCF, by rw [if_pos hC]; exact hXO⟩) (by first | exact Nat.zero_le _ | decide) (by first | exact Nat.zero_le _ | decide) dL_contract_36
set_option maxHeartbeats 1000000 in
set_option maxRecDepth 100000 in
theorem c_L_pay (l : Launch) (hfl : l.flags = flags0) (G : gW) (M : Mem) (τ : Mu) (hw : WF τ) (α : Nat → Nat) (hws : WS τ G α M) (hwt : WT τ α M) (hwb : WB τ α M) (had : ∀ p, p < 6 → AD τ p) (x y z : Int32) (ao : Nat) (hao : mK M ao = 21) (hao1 : mN M ao = 1) (han : ∀ k, LV τ k → ao ≠ α k) (hwU : (cd2 (rng x (un τ 9 9) && rng y 720) (inB z (lN 0) (lN 1000000))) = 0 → WF (spS (sI τ 6 (720 * x.toNatClampNeg + (if y.toNatClampNeg < un τ 2 x.toNatClampNeg then un τ 2 x.toNatClampNeg else y.toNatClampNeg)) z) x.toNatClampNeg 720)) : CH l yL_pay cL_pay 6 (some .int) [(0, 12, 15, 13), (0, 12, 19, 15)] 8 2 12 127 G M [.ref (α 0), .int x, .int y, .int z, .ref ao] (fun v M' => LPo τ G α M ao (cd2 (rng x (un τ 9 9) && rng y 720) (inB z (lN 0) (lN 1000000))) (spS (sI τ 6 (720 * x.toNatClampNeg + (if y.toNatClampNeg < un τ 2 x.toNatClampNeg then un τ 2 x.toNatClampNeg else y.toNatClampNeg)) z) x.toNatClampNeg 720) (some ((nI (payD τ x.toNatClampNeg y.toNatClampNeg)).toInt64)) v M') := by
  refine CH.of hfl rfl (Nat.le_of_ble_eq_true rfl) ?_
  intro pp ee ss mm ar bw mt cd C hgX hr htab
  refine V.eLo (lo' := [(0, .ref (α 0)), (1, .int x), (2, .int y), (3, .int z), (4, .ref ao)]) rfl ?_
  refine r_aload C 4 dL_pay_0 rfl ?_
  refine r_iconst C (v := nI 0) dL_pay_2 (by decide) ?_
  refine r_aload_n C 0 dL_pay_3 rfl rfl ?_
  refine r_iload_n C 1 dL_pay_4 rfl rfl ?_
  refine r_iload_n C 2 dL_pay_5 rfl rfl ?_
  refine r_iload_n C 3 dL_pay_6 rfl rfl ?_
  refine r_xVc C hgX (ci := 13) ml_L_19 im_X11_pay se_X11_pay rfl rfl (hws.2.1.k 0 14 rfl) (c_X11_pay l hfl G M τ hw α hws hwt hwb had x y z) rfl (Nat.le_of_ble_eq_true rfl) ⟨Nat.le_of_ble_eq_true rfl, Nat.le_of_ble_eq_true rfl⟩ ⟨Nat.le_of_ble_eq_true rfl, Nat.le_of_ble_eq_true rfl⟩ dL_pay_7 rfl (fun E_ M_ h_ => ?_) ?_
  · obtain ⟨hC0, rfl, rfl⟩ := h_
    rcases cd2_c (rng x (un τ 9 9) && rng y 720) (inB z (lN 0) (lN 1000000)) with hC | hC | hC
    · exact absurd hC hC0
    · refine ⟨15, ?_, fun q_ => ?_⟩
      · rw [hC]; exact ⟨[], ⟨0, 12, 15, 13⟩, [⟨0, 12, 19, 15⟩], htab, (fun z_ hz_ => absurd hz_ (List.not_mem_nil)), by decide, by decide, cl_L_13, hgX.2.2.2.2.2.1.1, rfl⟩
      · skip
        refine r_astore C (lo' := [(5, .ref q_), (0, .ref (α 0)), (1, .int x), (2, .int y), (3, .int z), (4, .ref ao)]) dL_pay_15 (by decide) rfl ?_
        refine r_iconst C (v := nI 1) dL_pay_17 (by decide) ?_
        refine V.xret ?_
        exact r_iret C hr (⟨by rw [hC], fun h_ => absurd h_ hC0, α, by rw [if_neg hC0]; exact WD.cl hw ⟨hws, hwt, hwb⟩, rfl, LQ.cl, by rw [if_neg hC0]; exact fun _ _ hz_ => hz_⟩) (by first | exact Nat.zero_le _ | decide) (by first | exact Nat.zero_le _ | decide) dL_pay_18
    · refine ⟨19, ?_, fun q_ => ?_⟩
      · rw [hC]; exact ⟨[⟨0, 12, 15, 13⟩], ⟨0, 12, 19, 15⟩, [], htab, (fun z_ hz_ => by rcases List.mem_cons.mp hz_ with rfl | hz_; exact ⟨by decide, _, cl_L_13, hgX.2.2.2.2.2.1.2.2.2.2.1 ("java/lang/IllegalArgumentException", "java/lang/IndexOutOfBoundsException") (by decide)⟩; exact absurd hz_ (List.not_mem_nil)), by decide, by decide, cl_L_15, hgX.2.2.2.2.2.1.2.1, rfl⟩
      · skip
        refine r_astore C (lo' := [(5, .ref q_), (0, .ref (α 0)), (1, .int x), (2, .int y), (3, .int z), (4, .ref ao)]) dL_pay_19 (by decide) rfl ?_
        refine r_iconst C (v := nI 2) dL_pay_21 (by decide) ?_
        refine V.xret ?_
        exact r_iret C hr (⟨by rw [hC], fun h_ => absurd h_ hC0, α, by rw [if_neg hC0]; exact WD.cl hw ⟨hws, hwt, hwb⟩, rfl, LQ.cl, by rw [if_neg hC0]; exact fun _ _ hz_ => hz_⟩) (by first | exact Nat.zero_le _ | decide) (by first | exact Nat.zero_le _ | decide) dL_pay_22
  rintro _ My ⟨hC, rfl, be, hWD, hb0, hCF, hXO⟩
  have hoy := hCF ao (by rw [hao]; decide) (by rw [hao]; decide) han
  have hk21 : mK My ao = 21 := hoy.1.trans hao
  have hn21 : mN My ao = 1 := hoy.2.1.trans hao1
  refine V.eSt (st' := [.int (nI (payD τ x.toNatClampNeg y.toNatClampNeg)), .int (nI 0), .ref ao]) rfl ?_
  refine r_i2l C dL_pay_10 ?_
  refine r_lastoreN C hk21 hn21 (by omega) (by omega) dL_pay_11 ?_
  refine r_goto C (t := 23) dL_pay_12 (by decide) ?_
  refine r_iconst C (v := nI 0) dL_pay_23 (by decide) ?_
  refine V.xret ?_
  exact r_iret C hr (⟨by rw [hC], fun _ x_ h_ => (by cases h_; exact wL_i), be, by rw [if_pos hC]; exact hWD.fr (hwU hC) ao_fr (fun k_ hk_ e_ => hXO ao (by rw [hao]; decide) han k_ hk_ e_.symm), hb0, LQ.of hCF, by rw [if_pos hC]; exact hXO⟩) (by first | exact Nat.zero_le _ | decide) (by first | exact Nat.zero_le _ | decide) dL_pay_24
set_option maxHeartbeats 1000000 in
set_option maxRecDepth 100000 in
theorem c_L_shift (l : Launch) (hfl : l.flags = flags0) (G : gW) (M : Mem) (τ : Mu) (hw : WF τ) (α : Nat → Nat) (hws : WS τ G α M) (hwt : WT τ α M) (hwb : WB τ α M) (had : ∀ p, p < 6 → AD τ p) (x y z w : Int32) (ao : Nat) (hao : mK M ao = 21) (hao1 : mN M ao = 1) (han : ∀ k, LV τ k → ao ≠ α k) (hwU : (cd3 (isOfB τ x y) (inB z (lN 0) (lN 1439) && inB w (lN 1) (lN 1440)) (shB τ x y z w)) = 0 → WF (shU τ x.toNatClampNeg y.toNatClampNeg z.toNatClampNeg w.toNatClampNeg)) : CH l yL_shift cL_shift 7 (some .int) [(0, 14, 17, 13), (0, 14, 21, 15), (0, 14, 25, 17)] 8 3 18 128 G M [.ref (α 0), .int x, .int y, .int z, .int w, .ref ao] (fun v M' => LPo τ G α M ao (cd3 (isOfB τ x y) (inB z (lN 0) (lN 1439) && inB w (lN 1) (lN 1440)) (shB τ x y z w)) (shU τ x.toNatClampNeg y.toNatClampNeg z.toNatClampNeg w.toNatClampNeg) (some ((nI (un τ 13 13 + 1)).toInt64)) v M') := by
  refine CH.of hfl rfl (Nat.le_of_ble_eq_true rfl) ?_
  intro pp ee ss mm ar bw mt cd C hgX hr htab
  refine V.eLo (lo' := [(0, .ref (α 0)), (1, .int x), (2, .int y), (3, .int z), (4, .int w), (5, .ref ao)]) rfl ?_
  refine r_aload C 5 dL_shift_0 rfl ?_
  refine r_iconst C (v := nI 0) dL_shift_2 (by decide) ?_
  refine r_aload_n C 0 dL_shift_3 rfl rfl ?_
  refine r_iload_n C 1 dL_shift_4 rfl rfl ?_
  refine r_iload_n C 2 dL_shift_5 rfl rfl ?_
  refine r_iload_n C 3 dL_shift_6 rfl rfl ?_
  refine r_iload C 4 dL_shift_7 rfl ?_
  refine r_xVc C hgX (ci := 13) ml_L_23 im_X11_shift se_X11_shift rfl rfl (hws.2.1.k 0 14 rfl) (c_X11_shift l hfl G M τ hw α hws hwt hwb had x y z w) rfl (Nat.le_of_ble_eq_true rfl) ⟨Nat.le_of_ble_eq_true rfl, Nat.le_of_ble_eq_true rfl⟩ ⟨Nat.le_of_ble_eq_true rfl, Nat.le_of_ble_eq_true rfl⟩ dL_shift_9 rfl (fun E_ M_ h_ => ?_) ?_
  · obtain ⟨hC0, rfl, rfl⟩ := h_
    rcases cd3_c (isOfB τ x y) (inB z (lN 0) (lN 1439) && inB w (lN 1) (lN 1440)) (shB τ x y z w) with hC | hC | hC | hC
    · exact absurd hC hC0
    · refine ⟨17, ?_, fun q_ => ?_⟩
      · rw [hC]; exact ⟨[], ⟨0, 14, 17, 13⟩, [⟨0, 14, 21, 15⟩, ⟨0, 14, 25, 17⟩], htab, (fun z_ hz_ => absurd hz_ (List.not_mem_nil)), by decide, by decide, cl_L_13, hgX.2.2.2.2.2.1.1, rfl⟩
      · skip
        refine r_astore C (lo' := [(6, .ref q_), (0, .ref (α 0)), (1, .int x), (2, .int y), (3, .int z), (4, .int w), (5, .ref ao)]) dL_shift_17 (by decide) rfl ?_
        refine r_iconst C (v := nI 1) dL_shift_19 (by decide) ?_
        refine V.xret ?_
        exact r_iret C hr (⟨by rw [hC], fun h_ => absurd h_ hC0, α, by rw [if_neg hC0]; exact WD.cl hw ⟨hws, hwt, hwb⟩, rfl, LQ.cl, by rw [if_neg hC0]; exact fun _ _ hz_ => hz_⟩) (by first | exact Nat.zero_le _ | decide) (by first | exact Nat.zero_le _ | decide) dL_shift_20
    · refine ⟨21, ?_, fun q_ => ?_⟩
      · rw [hC]; exact ⟨[⟨0, 14, 17, 13⟩], ⟨0, 14, 21, 15⟩, [⟨0, 14, 25, 17⟩], htab, (fun z_ hz_ => by rcases List.mem_cons.mp hz_ with rfl | hz_; exact ⟨by decide, _, cl_L_13, hgX.2.2.2.2.2.1.2.2.2.2.1 ("java/lang/IllegalArgumentException", "java/lang/IndexOutOfBoundsException") (by decide)⟩; exact absurd hz_ (List.not_mem_nil)), by decide, by decide, cl_L_15, hgX.2.2.2.2.2.1.2.1, rfl⟩
      · skip
        refine r_astore C (lo' := [(6, .ref q_), (0, .ref (α 0)), (1, .int x), (2, .int y), (3, .int z), (4, .int w), (5, .ref ao)]) dL_shift_21 (by decide) rfl ?_
        refine r_iconst C (v := nI 2) dL_shift_23 (by decide) ?_
        refine V.xret ?_
        exact r_iret C hr (⟨by rw [hC], fun h_ => absurd h_ hC0, α, by rw [if_neg hC0]; exact WD.cl hw ⟨hws, hwt, hwb⟩, rfl, LQ.cl, by rw [if_neg hC0]; exact fun _ _ hz_ => hz_⟩) (by first | exact Nat.zero_le _ | decide) (by first | exact Nat.zero_le _ | decide) dL_shift_24
    · refine ⟨25, ?_, fun q_ => ?_⟩
      · rw [hC]; exact ⟨[⟨0, 14, 17, 13⟩, ⟨0, 14, 21, 15⟩], ⟨0, 14, 25, 17⟩, [], htab, (fun z_ hz_ => by rcases List.mem_cons.mp hz_ with rfl | hz_; exact ⟨by decide, _, cl_L_13, hgX.2.2.2.2.2.1.2.2.2.2.1 ("java/lang/IllegalStateException", "java/lang/IndexOutOfBoundsException") (by decide)⟩; rcases List.mem_cons.mp hz_ with rfl | hz_; exact ⟨by decide, _, cl_L_15, hgX.2.2.2.2.2.1.2.2.2.2.1 ("java/lang/IllegalStateException", "java/lang/IllegalArgumentException") (by decide)⟩; exact absurd hz_ (List.not_mem_nil)), by decide, by decide, cl_L_17, hgX.2.2.2.2.2.1.2.2.1, rfl⟩
      · skip
        refine r_astore C (lo' := [(6, .ref q_), (0, .ref (α 0)), (1, .int x), (2, .int y), (3, .int z), (4, .int w), (5, .ref ao)]) dL_shift_25 (by decide) rfl ?_
        refine r_iconst C (v := nI 3) dL_shift_27 (by decide) ?_
        refine V.xret ?_
        exact r_iret C hr (⟨by rw [hC], fun h_ => absurd h_ hC0, α, by rw [if_neg hC0]; exact WD.cl hw ⟨hws, hwt, hwb⟩, rfl, LQ.cl, by rw [if_neg hC0]; exact fun _ _ hz_ => hz_⟩) (by first | exact Nat.zero_le _ | decide) (by first | exact Nat.zero_le _ | decide) dL_shift_28
  rintro _ My ⟨hC, rfl, be, hWD, hb0, hCF, hXO⟩
  have hoy := hCF ao (by rw [hao]; decide) (by rw [hao]; decide) han
  have hk21 : mK My ao = 21 := hoy.1.trans hao
  have hn21 : mN My ao = 1 := hoy.2.1.trans hao1
  refine V.eSt (st' := [.int (nI (un τ 13 13 + 1)), .int (nI 0), .ref ao]) rfl ?_
  refine r_i2l C dL_shift_12 ?_
  refine r_lastoreN C hk21 hn21 (by omega) (by omega) dL_shift_13 ?_
  refine r_goto C (t := 29) dL_shift_14 (by decide) ?_
  refine r_iconst C (v := nI 0) dL_shift_29 (by decide) ?_
  refine V.xret ?_
  exact r_iret C hr (⟨by rw [hC], fun _ x_ h_ => (by cases h_; exact wL_i), be, by rw [if_pos hC]; exact hWD.fr (hwU hC) ao_fr (fun k_ hk_ e_ => hXO ao (by rw [hao]; decide) han k_ hk_ e_.symm), hb0, LQ.of hCF, by rw [if_pos hC]; exact hXO⟩) (by first | exact Nat.zero_le _ | decide) (by first | exact Nat.zero_le _ | decide) dL_shift_30
set_option maxHeartbeats 1000000 in
set_option maxRecDepth 100000 in
theorem c_L_minutes (l : Launch) (hfl : l.flags = flags0) (G : gW) (M : Mem) (τ : Mu) (hw : WF τ) (α : Nat → Nat) (hws : WS τ G α M) (hwt : WT τ α M) (hwb : WB τ α M) (had : ∀ p, p < 6 → AD τ p) (x y : Int32) (ao : Nat) (hao : mK M ao = 21) (hao1 : mN M ao = 1) (han : ∀ k, LV τ k → ao ≠ α k) (hwU : (cd1 (rng x (un τ 9 9) && rng y 720)) = 0 → WF τ) : CH l yL_minutes cL_minutes 5 (some .int) [(0, 10, 13, 13)] 8 1 6 124 G M [.ref (α 0), .int x, .int y, .ref ao] (fun v M' => LPo τ G α M ao (cd1 (rng x (un τ 9 9) && rng y 720)) τ (some ((τ.1 8 (720 * x.toNatClampNeg + y.toNatClampNeg)).toInt64)) v M') := by
  refine CH.of hfl rfl (Nat.le_of_ble_eq_true rfl) ?_
  intro pp ee ss mm ar bw mt cd C hgX hr htab
  refine V.eLo (lo' := [(0, .ref (α 0)), (1, .int x), (2, .int y), (3, .ref ao)]) rfl ?_
  refine r_aload_n C 3 dL_minutes_0 rfl rfl ?_
  refine r_iconst C (v := nI 0) dL_minutes_1 (by decide) ?_
  refine r_aload_n C 0 dL_minutes_2 rfl rfl ?_
  refine r_iload_n C 1 dL_minutes_3 rfl rfl ?_
  refine r_iload_n C 2 dL_minutes_4 rfl rfl ?_
  refine r_xVc C hgX (ci := 13) ml_L_27 im_X11_minutes se_X11_minutes rfl rfl (hws.2.1.k 0 14 rfl) (c_X11_minutes l hfl G M τ hw α hws hwt hwb had x y) rfl (Nat.le_of_ble_eq_true rfl) ⟨Nat.le_of_ble_eq_true rfl, Nat.le_of_ble_eq_true rfl⟩ ⟨Nat.le_of_ble_eq_true rfl, Nat.le_of_ble_eq_true rfl⟩ dL_minutes_5 rfl (fun E_ M_ h_ => ?_) ?_
  · obtain ⟨hC0, rfl, rfl⟩ := h_
    rcases cd1_c (rng x (un τ 9 9) && rng y 720) with hC | hC
    · exact absurd hC hC0
    · refine ⟨13, ?_, fun q_ => ?_⟩
      · rw [hC]; exact ⟨[], ⟨0, 10, 13, 13⟩, [], htab, (fun z_ hz_ => absurd hz_ (List.not_mem_nil)), by decide, by decide, cl_L_13, hgX.2.2.2.2.2.1.1, rfl⟩
      · skip
        refine r_astore C (lo' := [(4, .ref q_), (0, .ref (α 0)), (1, .int x), (2, .int y), (3, .ref ao)]) dL_minutes_13 (by decide) rfl ?_
        refine r_iconst C (v := nI 1) dL_minutes_15 (by decide) ?_
        refine V.xret ?_
        exact r_iret C hr (⟨by rw [hC], fun h_ => absurd h_ hC0, α, by rw [if_neg hC0]; exact WD.cl hw ⟨hws, hwt, hwb⟩, rfl, LQ.cl, by rw [if_neg hC0]; exact fun _ _ hz_ => hz_⟩) (by first | exact Nat.zero_le _ | decide) (by first | exact Nat.zero_le _ | decide) dL_minutes_16
  rintro _ My ⟨hC, rfl, be, hWD, hb0, hCF, hXO⟩
  have hoy := hCF ao (by rw [hao]; decide) (by rw [hao]; decide) han
  have hk21 : mK My ao = 21 := hoy.1.trans hao
  have hn21 : mN My ao = 1 := hoy.2.1.trans hao1
  refine V.eSt (st' := [.int (τ.1 8 (720 * x.toNatClampNeg + y.toNatClampNeg)), .int (nI 0), .ref ao]) rfl ?_
  refine r_i2l C dL_minutes_8 ?_
  refine r_lastoreN C hk21 hn21 (by omega) (by omega) dL_minutes_9 ?_
  refine r_goto C (t := 17) dL_minutes_10 (by decide) ?_
  refine r_iconst C (v := nI 0) dL_minutes_17 (by decide) ?_
  refine V.xret ?_
  exact r_iret C hr (⟨by rw [hC], fun _ x_ h_ => (by cases h_; exact wL_i), be, by rw [if_pos hC]; exact hWD.fr (hwU hC) ao_fr (fun k_ hk_ e_ => hXO ao (by rw [hao]; decide) han k_ hk_ e_.symm), hb0, LQ.of hCF, by rw [if_pos hC]; exact hXO⟩) (by first | exact Nat.zero_le _ | decide) (by first | exact Nat.zero_le _ | decide) dL_minutes_18
set_option maxHeartbeats 1000000 in
set_option maxRecDepth 100000 in
theorem c_L_overtime (l : Launch) (hfl : l.flags = flags0) (G : gW) (M : Mem) (τ : Mu) (hw : WF τ) (α : Nat → Nat) (hws : WS τ G α M) (hwt : WT τ α M) (hwb : WB τ α M) (had : ∀ p, p < 6 → AD τ p) (x y : Int32) (ao : Nat) (hao : mK M ao = 21) (hao1 : mN M ao = 1) (han : ∀ k, LV τ k → ao ≠ α k) (hwU : (cd1 (rng x (un τ 9 9) && inB y (lN 0) (lN 102))) = 0 → WF τ) : CH l yL_overtime cL_overtime 5 (some .int) [(0, 10, 13, 13)] 8 1 6 124 G M [.ref (α 0), .int x, .int y, .ref ao] (fun v M' => LPo τ G α M ao (cd1 (rng x (un τ 9 9) && inB y (lN 0) (lN 102))) τ (some ((nI (overN τ x.toNatClampNeg y.toNatClampNeg)).toInt64)) v M') := by
  refine CH.of hfl rfl (Nat.le_of_ble_eq_true rfl) ?_
  intro pp ee ss mm ar bw mt cd C hgX hr htab
  refine V.eLo (lo' := [(0, .ref (α 0)), (1, .int x), (2, .int y), (3, .ref ao)]) rfl ?_
  refine r_aload_n C 3 dL_overtime_0 rfl rfl ?_
  refine r_iconst C (v := nI 0) dL_overtime_1 (by decide) ?_
  refine r_aload_n C 0 dL_overtime_2 rfl rfl ?_
  refine r_iload_n C 1 dL_overtime_3 rfl rfl ?_
  refine r_iload_n C 2 dL_overtime_4 rfl rfl ?_
  refine r_xVc C hgX (ci := 13) ml_L_31 im_X11_overtime se_X11_overtime rfl rfl (hws.2.1.k 0 14 rfl) (c_X11_overtime l hfl G M τ hw α hws hwt hwb had x y) rfl (Nat.le_of_ble_eq_true rfl) ⟨Nat.le_of_ble_eq_true rfl, Nat.le_of_ble_eq_true rfl⟩ ⟨Nat.le_of_ble_eq_true rfl, Nat.le_of_ble_eq_true rfl⟩ dL_overtime_5 rfl (fun E_ M_ h_ => ?_) ?_
  · obtain ⟨hC0, rfl, rfl⟩ := h_
    rcases cd1_c (rng x (un τ 9 9) && inB y (lN 0) (lN 102)) with hC | hC
    · exact absurd hC hC0
    · refine ⟨13, ?_, fun q_ => ?_⟩
      · rw [hC]; exact ⟨[], ⟨0, 10, 13, 13⟩, [], htab, (fun z_ hz_ => absurd hz_ (List.not_mem_nil)), by decide, by decide, cl_L_13, hgX.2.2.2.2.2.1.1, rfl⟩
      · skip
        refine r_astore C (lo' := [(4, .ref q_), (0, .ref (α 0)), (1, .int x), (2, .int y), (3, .ref ao)]) dL_overtime_13 (by decide) rfl ?_
        refine r_iconst C (v := nI 1) dL_overtime_15 (by decide) ?_
        refine V.xret ?_
        exact r_iret C hr (⟨by rw [hC], fun h_ => absurd h_ hC0, α, by rw [if_neg hC0]; exact WD.cl hw ⟨hws, hwt, hwb⟩, rfl, LQ.cl, by rw [if_neg hC0]; exact fun _ _ hz_ => hz_⟩) (by first | exact Nat.zero_le _ | decide) (by first | exact Nat.zero_le _ | decide) dL_overtime_16
  rintro _ My ⟨hC, rfl, be, hWD, hb0, hCF, hXO⟩
  have hoy := hCF ao (by rw [hao]; decide) (by rw [hao]; decide) han
  have hk21 : mK My ao = 21 := hoy.1.trans hao
  have hn21 : mN My ao = 1 := hoy.2.1.trans hao1
  refine V.eSt (st' := [.int (nI (overN τ x.toNatClampNeg y.toNatClampNeg)), .int (nI 0), .ref ao]) rfl ?_
  refine r_i2l C dL_overtime_8 ?_
  refine r_lastoreN C hk21 hn21 (by omega) (by omega) dL_overtime_9 ?_
  refine r_goto C (t := 17) dL_overtime_10 (by decide) ?_
  refine r_iconst C (v := nI 0) dL_overtime_17 (by decide) ?_
  refine V.xret ?_
  exact r_iret C hr (⟨by rw [hC], fun _ x_ h_ => (by cases h_; exact wL_i), be, by rw [if_pos hC]; exact hWD.fr (hwU hC) ao_fr (fun k_ hk_ e_ => hXO ao (by rw [hao]; decide) han k_ hk_ e_.symm), hb0, LQ.of hCF, by rw [if_pos hC]; exact hXO⟩) (by first | exact Nat.zero_le _ | decide) (by first | exact Nat.zero_le _ | decide) dL_overtime_18
set_option maxHeartbeats 1000000 in
set_option maxRecDepth 100000 in
theorem c_L_base (l : Launch) (hfl : l.flags = flags0) (G : gW) (M : Mem) (τ : Mu) (hw : WF τ) (α : Nat → Nat) (hws : WS τ G α M) (hwt : WT τ α M) (hwb : WB τ α M) (had : ∀ p, p < 6 → AD τ p) (x y : Int32) (ao : Nat) (hao : mK M ao = 21) (hao1 : mN M ao = 1) (han : ∀ k, LV τ k → ao ≠ α k) (hwU : (cd1 (rng x (un τ 9 9) && rng y 24)) = 0 → WF τ) : CH l yL_base cL_base 5 (some .int) [(0, 9, 12, 13)] 8 1 6 211 G M [.ref (α 0), .int x, .int y, .ref ao] (fun v M' => LPo τ G α M ao (cd1 (rng x (un τ 9 9) && rng y 24)) τ (some (lN (baseN τ (ltN τ) x.toNatClampNeg y.toNatClampNeg))) v M') := by
  refine CH.of hfl rfl (Nat.le_of_ble_eq_true rfl) ?_
  intro pp ee ss mm ar bw mt cd C hgX hr htab
  refine V.eLo (lo' := [(0, .ref (α 0)), (1, .int x), (2, .int y), (3, .ref ao)]) rfl ?_
  refine r_aload_n C 3 dL_base_0 rfl rfl ?_
  refine r_iconst C (v := nI 0) dL_base_1 (by decide) ?_
  refine r_aload_n C 0 dL_base_2 rfl rfl ?_
  refine r_iload_n C 1 dL_base_3 rfl rfl ?_
  refine r_iload_n C 2 dL_base_4 rfl rfl ?_
  refine r_xVc C hgX (ci := 13) ml_L_34 im_X11_base se_X11_base rfl rfl (hws.2.1.k 0 14 rfl) (c_X11_base l hfl G M τ hw α hws hwt hwb had x y) rfl (Nat.le_of_ble_eq_true rfl) ⟨Nat.le_of_ble_eq_true rfl, Nat.le_of_ble_eq_true rfl⟩ ⟨Nat.le_of_ble_eq_true rfl, Nat.le_of_ble_eq_true rfl⟩ dL_base_5 rfl (fun E_ M_ h_ => ?_) ?_
  · obtain ⟨hC0, rfl, rfl⟩ := h_
    rcases cd1_c (rng x (un τ 9 9) && rng y 24) with hC | hC
    · exact absurd hC hC0
    · refine ⟨12, ?_, fun q_ => ?_⟩
      · rw [hC]; exact ⟨[], ⟨0, 9, 12, 13⟩, [], htab, (fun z_ hz_ => absurd hz_ (List.not_mem_nil)), by decide, by decide, cl_L_13, hgX.2.2.2.2.2.1.1, rfl⟩
      · skip
        refine r_astore C (lo' := [(4, .ref q_), (0, .ref (α 0)), (1, .int x), (2, .int y), (3, .ref ao)]) dL_base_12 (by decide) rfl ?_
        refine r_iconst C (v := nI 1) dL_base_14 (by decide) ?_
        refine V.xret ?_
        exact r_iret C hr (⟨by rw [hC], fun h_ => absurd h_ hC0, α, by rw [if_neg hC0]; exact WD.cl hw ⟨hws, hwt, hwb⟩, rfl, LQ.cl, by rw [if_neg hC0]; exact fun _ _ hz_ => hz_⟩) (by first | exact Nat.zero_le _ | decide) (by first | exact Nat.zero_le _ | decide) dL_base_15
  rintro _ My ⟨hC, rfl, be, hWD, hb0, hCF, hXO⟩
  have hoy := hCF ao (by rw [hao]; decide) (by rw [hao]; decide) han
  have hk21 : mK My ao = 21 := hoy.1.trans hao
  have hn21 : mN My ao = 1 := hoy.2.1.trans hao1
  refine V.eSt (st' := [.long (lN (baseN τ (ltN τ) x.toNatClampNeg y.toNatClampNeg)), .int (nI 0), .ref ao]) rfl ?_
  refine r_lastoreN C hk21 hn21 (by omega) (by omega) dL_base_8 ?_
  refine r_goto C (t := 16) dL_base_9 (by decide) ?_
  refine r_iconst C (v := nI 0) dL_base_16 (by decide) ?_
  refine V.xret ?_
  exact r_iret C hr (⟨by rw [hC], fun _ x_ h_ => (by cases h_; exact wL_i), be, by rw [if_pos hC]; exact hWD.fr (hwU hC) ao_fr (fun k_ hk_ e_ => hXO ao (by rw [hao]; decide) han k_ hk_ e_.symm), hb0, LQ.of hCF, by rw [if_pos hC]; exact hXO⟩) (by first | exact Nat.zero_le _ | decide) (by first | exact Nat.zero_le _ | decide) dL_base_17
set_option maxHeartbeats 1000000 in
set_option maxRecDepth 100000 in
theorem c_L_leaveRule (l : Launch) (hfl : l.flags = flags0) (G : gW) (M : Mem) (τ : Mu) (hw : WF τ) (α : Nat → Nat) (hws : WS τ G α M) (hwt : WT τ α M) (hwb : WB τ α M) (had : ∀ p, p < 6 → AD τ p) (x y z : Int32) (ao : Nat) (hwU : (cd1 (inB x (lN 0) (lN 50) && inB y (lN 0) (lN 500) && inB z (lN 1) (lN 12))) = 0 → WF (sI (sI (sI τ 18 18 x) 19 19 y) 20 20 z)) : CH l yL_leaveRule cL_leaveRule 5 (some .int) [(0, 7, 10, 15)] 8 1 6 125 G M [.ref (α 0), .int x, .int y, .int z] (fun v M' => LPo τ G α M ao (cd1 (inB x (lN 0) (lN 50) && inB y (lN 0) (lN 500) && inB z (lN 1) (lN 12))) (sI (sI (sI τ 18 18 x) 19 19 y) 20 20 z) none v M') := by
  refine CH.of hfl rfl (Nat.le_of_ble_eq_true rfl) ?_
  intro pp ee ss mm ar bw mt cd C hgX hr htab
  refine V.eLo (lo' := [(0, .ref (α 0)), (1, .int x), (2, .int y), (3, .int z)]) rfl ?_
  refine r_aload_n C 0 dL_leaveRule_0 rfl rfl ?_
  refine r_iload_n C 1 dL_leaveRule_1 rfl rfl ?_
  refine r_iload_n C 2 dL_leaveRule_2 rfl rfl ?_
  refine r_iload_n C 3 dL_leaveRule_3 rfl rfl ?_
  refine r_xVc C hgX (ci := 13) ml_L_38 im_X11_leaveRule se_X11_leaveRule rfl rfl (hws.2.1.k 0 14 rfl) (c_X11_leaveRule l hfl G M τ hw α hws hwt hwb had x y z) rfl (Nat.le_of_ble_eq_true rfl) ⟨Nat.le_of_ble_eq_true rfl, Nat.le_of_ble_eq_true rfl⟩ ⟨Nat.le_of_ble_eq_true rfl, Nat.le_of_ble_eq_true rfl⟩ dL_leaveRule_4 rfl (fun E_ M_ h_ => ?_) ?_
  · obtain ⟨hC0, rfl, rfl⟩ := h_
    rcases cd1_c (inB x (lN 0) (lN 50) && inB y (lN 0) (lN 500) && inB z (lN 1) (lN 12)) with hC | hC
    · exact absurd hC hC0
    · refine ⟨10, ?_, fun q_ => ?_⟩
      · rw [hC]; exact ⟨[], ⟨0, 7, 10, 15⟩, [], htab, (fun z_ hz_ => absurd hz_ (List.not_mem_nil)), by decide, by decide, cl_L_15, hgX.2.2.2.2.2.1.2.1, rfl⟩
      · skip
        refine r_astore C (lo' := [(4, .ref q_), (0, .ref (α 0)), (1, .int x), (2, .int y), (3, .int z)]) dL_leaveRule_10 (by decide) rfl ?_
        refine r_iconst C (v := nI 1) dL_leaveRule_12 (by decide) ?_
        refine V.xret ?_
        exact r_iret C hr (⟨by rw [hC], fun h_ => absurd h_ hC0, α, by rw [if_neg hC0]; exact WD.cl hw ⟨hws, hwt, hwb⟩, rfl, LQ.cl, by rw [if_neg hC0]; exact fun _ _ hz_ => hz_⟩) (by first | exact Nat.zero_le _ | decide) (by first | exact Nat.zero_le _ | decide) dL_leaveRule_13
  rintro _ My ⟨hC, rfl, be, hWD, hb0, hCF, hXO⟩
  refine r_goto C (t := 14) dL_leaveRule_7 (by decide) ?_
  refine r_iconst C (v := nI 0) dL_leaveRule_14 (by decide) ?_
  refine V.xret ?_
  exact r_iret C hr (⟨by rw [hC], fun _ x_ h_ => (by cases h_), be, by rw [if_pos hC]; exact hWD, hb0, LQ.of0 hCF, by rw [if_pos hC]; exact hXO⟩) (by first | exact Nat.zero_le _ | decide) (by first | exact Nat.zero_le _ | decide) dL_leaveRule_15
set_option maxHeartbeats 1000000 in
set_option maxRecDepth 100000 in
theorem c_L_leave (l : Launch) (hfl : l.flags = flags0) (G : gW) (M : Mem) (τ : Mu) (hw : WF τ) (α : Nat → Nat) (hws : WS τ G α M) (hwt : WT τ α M) (hwb : WB τ α M) (had : ∀ p, p < 6 → AD τ p) (x y : Int32) (ao : Nat) (hao : mK M ao = 21) (hao1 : mN M ao = 1) (han : ∀ k, LV τ k → ao ≠ α k) (hwU : (cd2 (isOfB τ x y) (decide (un τ 17 17 ≠ 30))) = 0 → WF (sI (sI (sI τ 14 (un τ 17 17) x) 15 (un τ 17 17) y) 17 17 (nI (un τ 17 17 + 1)))) : CH l yL_leave cL_leave 5 (some .int) [(0, 17, 20, 13), (0, 17, 24, 17)] 8 4 315 261 G M [.ref (α 0), .int x, .int y, .ref ao] (fun v M' => LPo τ G α M ao (cd2 (isOfB τ x y) (decide (un τ 17 17 ≠ 30))) (sI (sI (sI τ 14 (un τ 17 17) x) 15 (un τ 17 17) y) 17 17 (nI (un τ 17 17 + 1))) (some (if (bI (decide (ltN (sI (sI (sI τ 14 (un τ 17 17) x) 15 (un τ 17 17) y) 17 17 (nI (un τ 17 17 + 1))) (un τ 17 17) = 1))) = 0 then lN 0 else lN 1)) v M') := by
  refine CH.of hfl rfl (Nat.le_of_ble_eq_true rfl) ?_
  intro pp ee ss mm ar bw mt cd C hgX hr htab
  refine V.eLo (lo' := [(0, .ref (α 0)), (1, .int x), (2, .int y), (3, .ref ao)]) rfl ?_
  refine r_aload_n C 3 dL_leave_0 rfl rfl ?_
  refine r_iconst C (v := nI 0) dL_leave_1 (by decide) ?_
  refine r_aload_n C 0 dL_leave_2 rfl rfl ?_
  refine r_iload_n C 1 dL_leave_3 rfl rfl ?_
  refine r_iload_n C 2 dL_leave_4 rfl rfl ?_
  refine r_xVc C hgX (ci := 13) ml_L_42 im_X11_leave se_X11_leave rfl rfl (hws.2.1.k 0 14 rfl) (c_X11_leave l hfl G M τ hw α hws hwt hwb had x y) rfl (Nat.le_of_ble_eq_true rfl) ⟨Nat.le_of_ble_eq_true rfl, Nat.le_of_ble_eq_true rfl⟩ ⟨Nat.le_of_ble_eq_true rfl, Nat.le_of_ble_eq_true rfl⟩ dL_leave_5 rfl (fun E_ M_ h_ => ?_) ?_
  · obtain ⟨hC0, rfl, rfl⟩ := h_
    rcases cd2_c (isOfB τ x y) (decide (un τ 17 17 ≠ 30)) with hC | hC | hC
    · exact absurd hC hC0
    · refine ⟨20, ?_, fun q_ => ?_⟩
      · rw [hC]; exact ⟨[], ⟨0, 17, 20, 13⟩, [⟨0, 17, 24, 17⟩], htab, (fun z_ hz_ => absurd hz_ (List.not_mem_nil)), by decide, by decide, cl_L_13, hgX.2.2.2.2.2.1.1, rfl⟩
      · skip
        refine r_astore C (lo' := [(4, .ref q_), (0, .ref (α 0)), (1, .int x), (2, .int y), (3, .ref ao)]) dL_leave_20 (by decide) rfl ?_
        refine r_iconst C (v := nI 1) dL_leave_22 (by decide) ?_
        refine V.xret ?_
        exact r_iret C hr (⟨by rw [hC], fun h_ => absurd h_ hC0, α, by rw [if_neg hC0]; exact WD.cl hw ⟨hws, hwt, hwb⟩, rfl, LQ.cl, by rw [if_neg hC0]; exact fun _ _ hz_ => hz_⟩) (by first | exact Nat.zero_le _ | decide) (by first | exact Nat.zero_le _ | decide) dL_leave_23
    · refine ⟨24, ?_, fun q_ => ?_⟩
      · rw [hC]; exact ⟨[⟨0, 17, 20, 13⟩], ⟨0, 17, 24, 17⟩, [], htab, (fun z_ hz_ => by rcases List.mem_cons.mp hz_ with rfl | hz_; exact ⟨by decide, _, cl_L_13, hgX.2.2.2.2.2.1.2.2.2.2.1 ("java/lang/IllegalStateException", "java/lang/IndexOutOfBoundsException") (by decide)⟩; exact absurd hz_ (List.not_mem_nil)), by decide, by decide, cl_L_17, hgX.2.2.2.2.2.1.2.2.1, rfl⟩
      · skip
        refine r_astore C (lo' := [(4, .ref q_), (0, .ref (α 0)), (1, .int x), (2, .int y), (3, .ref ao)]) dL_leave_24 (by decide) rfl ?_
        refine r_iconst C (v := nI 2) dL_leave_26 (by decide) ?_
        refine V.xret ?_
        exact r_iret C hr (⟨by rw [hC], fun h_ => absurd h_ hC0, α, by rw [if_neg hC0]; exact WD.cl hw ⟨hws, hwt, hwb⟩, rfl, LQ.cl, by rw [if_neg hC0]; exact fun _ _ hz_ => hz_⟩) (by first | exact Nat.zero_le _ | decide) (by first | exact Nat.zero_le _ | decide) dL_leave_27
  rintro _ My ⟨hC, rfl, be, hWD, hb0, hCF, hXO⟩
  have hoy := hCF ao (by rw [hao]; decide) (by rw [hao]; decide) han
  have hk21 : mK My ao = 21 := hoy.1.trans hao
  have hn21 : mN My ao = 1 := hoy.2.1.trans hao1
  refine V.eSt (st' := [.int (bI (decide (ltN (sI (sI (sI τ 14 (un τ 17 17) x) 15 (un τ 17 17) y) 17 17 (nI (un τ 17 17 + 1))) (un τ 17 17) = 1))), .int (nI 0), .ref ao]) rfl ?_
  refine r_if_eq C (t := 15) dL_leave_8 (by decide) (fun c8 => ?_) (fun c8 => ?_)
  · skip
    refine r_lconst C (v := lN 0) dL_leave_15 (by decide) ?_
    refine r_lastoreN C hk21 hn21 (by omega) (by omega) dL_leave_16 ?_
    refine r_goto C (t := 28) dL_leave_17 (by decide) ?_
    refine r_iconst C (v := nI 0) dL_leave_28 (by decide) ?_
    refine V.xret ?_
    exact r_iret C hr (⟨by rw [hC], fun _ x_ h_ => (by cases h_; rw [if_pos c8]; exact wL_i), be, by rw [if_pos hC]; exact hWD.fr (hwU hC) ao_fr (fun k_ hk_ e_ => hXO ao (by rw [hao]; decide) han k_ hk_ e_.symm), hb0, LQ.of hCF, by rw [if_pos hC]; exact hXO⟩) (by first | exact Nat.zero_le _ | decide) (by first | exact Nat.zero_le _ | decide) dL_leave_29
  · skip
    refine r_lconst C (v := lN 1) dL_leave_11 (by decide) ?_
    refine r_goto C (t := 16) dL_leave_12 (by decide) ?_
    refine r_lastoreN C hk21 hn21 (by omega) (by omega) dL_leave_16 ?_
    refine r_goto C (t := 28) dL_leave_17 (by decide) ?_
    refine r_iconst C (v := nI 0) dL_leave_28 (by decide) ?_
    refine V.xret ?_
    exact r_iret C hr (⟨by rw [hC], fun _ x_ h_ => (by cases h_; rw [if_neg c8]; exact wL_i), be, by rw [if_pos hC]; exact hWD.fr (hwU hC) ao_fr (fun k_ hk_ e_ => hXO ao (by rw [hao]; decide) han k_ hk_ e_.symm), hb0, LQ.of hCF, by rw [if_pos hC]; exact hXO⟩) (by first | exact Nat.zero_le _ | decide) (by first | exact Nat.zero_le _ | decide) dL_leave_29
set_option maxHeartbeats 1000000 in
set_option maxRecDepth 100000 in
theorem c_L_leaveLeft (l : Launch) (hfl : l.flags = flags0) (G : gW) (M : Mem) (τ : Mu) (hw : WF τ) (α : Nat → Nat) (hws : WS τ G α M) (hwt : WT τ α M) (hwb : WB τ α M) (had : ∀ p, p < 6 → AD τ p) (x y : Int32) (ao : Nat) (hao : mK M ao = 21) (hao1 : mN M ao = 1) (han : ∀ k, LV τ k → ao ≠ α k) (hwU : (cd1 (rng x 6 && rng y 720)) = 0 → WF τ) : CH l yL_leaveLeft cL_leaveLeft 5 (some .int) [(0, 10, 13, 13)] 8 1 6 140 G M [.ref (α 0), .int x, .int y, .ref ao] (fun v M' => LPo τ G α M ao (cd1 (rng x 6 && rng y 720)) τ (some ((nI (leftN τ x.toNatClampNeg y.toNatClampNeg)).toInt64)) v M') := by
  refine CH.of hfl rfl (Nat.le_of_ble_eq_true rfl) ?_
  intro pp ee ss mm ar bw mt cd C hgX hr htab
  refine V.eLo (lo' := [(0, .ref (α 0)), (1, .int x), (2, .int y), (3, .ref ao)]) rfl ?_
  refine r_aload_n C 3 dL_leaveLeft_0 rfl rfl ?_
  refine r_iconst C (v := nI 0) dL_leaveLeft_1 (by decide) ?_
  refine r_aload_n C 0 dL_leaveLeft_2 rfl rfl ?_
  refine r_iload_n C 1 dL_leaveLeft_3 rfl rfl ?_
  refine r_iload_n C 2 dL_leaveLeft_4 rfl rfl ?_
  refine r_xVc C hgX (ci := 13) ml_L_46 im_X11_leaveLeft se_X11_leaveLeft rfl rfl (hws.2.1.k 0 14 rfl) (c_X11_leaveLeft l hfl G M τ hw α hws hwt hwb had x y) rfl (Nat.le_of_ble_eq_true rfl) ⟨Nat.le_of_ble_eq_true rfl, Nat.le_of_ble_eq_true rfl⟩ ⟨Nat.le_of_ble_eq_true rfl, Nat.le_of_ble_eq_true rfl⟩ dL_leaveLeft_5 rfl (fun E_ M_ h_ => ?_) ?_
  · obtain ⟨hC0, rfl, rfl⟩ := h_
    rcases cd1_c (rng x 6 && rng y 720) with hC | hC
    · exact absurd hC hC0
    · refine ⟨13, ?_, fun q_ => ?_⟩
      · rw [hC]; exact ⟨[], ⟨0, 10, 13, 13⟩, [], htab, (fun z_ hz_ => absurd hz_ (List.not_mem_nil)), by decide, by decide, cl_L_13, hgX.2.2.2.2.2.1.1, rfl⟩
      · skip
        refine r_astore C (lo' := [(4, .ref q_), (0, .ref (α 0)), (1, .int x), (2, .int y), (3, .ref ao)]) dL_leaveLeft_13 (by decide) rfl ?_
        refine r_iconst C (v := nI 1) dL_leaveLeft_15 (by decide) ?_
        refine V.xret ?_
        exact r_iret C hr (⟨by rw [hC], fun h_ => absurd h_ hC0, α, by rw [if_neg hC0]; exact WD.cl hw ⟨hws, hwt, hwb⟩, rfl, LQ.cl, by rw [if_neg hC0]; exact fun _ _ hz_ => hz_⟩) (by first | exact Nat.zero_le _ | decide) (by first | exact Nat.zero_le _ | decide) dL_leaveLeft_16
  rintro _ My ⟨hC, rfl, be, hWD, hb0, hCF, hXO⟩
  have hoy := hCF ao (by rw [hao]; decide) (by rw [hao]; decide) han
  have hk21 : mK My ao = 21 := hoy.1.trans hao
  have hn21 : mN My ao = 1 := hoy.2.1.trans hao1
  refine V.eSt (st' := [.int (nI (leftN τ x.toNatClampNeg y.toNatClampNeg)), .int (nI 0), .ref ao]) rfl ?_
  refine r_i2l C dL_leaveLeft_8 ?_
  refine r_lastoreN C hk21 hn21 (by omega) (by omega) dL_leaveLeft_9 ?_
  refine r_goto C (t := 17) dL_leaveLeft_10 (by decide) ?_
  refine r_iconst C (v := nI 0) dL_leaveLeft_17 (by decide) ?_
  refine V.xret ?_
  exact r_iret C hr (⟨by rw [hC], fun _ x_ h_ => (by cases h_; exact wL_i), be, by rw [if_pos hC]; exact hWD.fr (hwU hC) ao_fr (fun k_ hk_ e_ => hXO ao (by rw [hao]; decide) han k_ hk_ e_.symm), hb0, LQ.of hCF, by rw [if_pos hC]; exact hXO⟩) (by first | exact Nat.zero_le _ | decide) (by first | exact Nat.zero_le _ | decide) dL_leaveLeft_18
set_option maxHeartbeats 1000000 in
set_option maxRecDepth 100000 in
theorem c_L_word (l : Launch) (hfl : l.flags = flags0) (G : gW) (M : Mem) (τ : Mu) (hw : WF τ) (α : Nat → Nat) (hws : WS τ G α M) (hwt : WT τ α M) (hwb : WB τ α M) (had : ∀ p, p < 6 → AD τ p) (x y : Int32) (ao : Nat) (hao : mK M ao = 21) (hao1 : mN M ao = 1) (han : ∀ k, LV τ k → ao ≠ α k) (hwU : (cd2 (inB x (lN 0) (lN 9) && (decide (x ≠ nI 2) || inB y (lN 0) (lN 5)) && (decide (x ≠ nI 3) || inB y (-1000000) (lN 1000000))) (wdB τ x)) = 0 → WF (sI (sI (sI τ 22 (60 + un τ 24 6) x) 23 (60 + un τ 24 6) y) 24 6 (nI (un τ 24 6 + 1)))) : CH l yL_word cL_word 5 (some .int) [(0, 10, 13, 15), (0, 10, 17, 17)] 8 4 24 124 G M [.ref (α 0), .int x, .int y, .ref ao] (fun v M' => LPo τ G α M ao (cd2 (inB x (lN 0) (lN 9) && (decide (x ≠ nI 2) || inB y (lN 0) (lN 5)) && (decide (x ≠ nI 3) || inB y (-1000000) (lN 1000000))) (wdB τ x)) (sI (sI (sI τ 22 (60 + un τ 24 6) x) 23 (60 + un τ 24 6) y) 24 6 (nI (un τ 24 6 + 1))) (some ((nI (un τ 24 6 + 1)).toInt64)) v M') := by
  refine CH.of hfl rfl (Nat.le_of_ble_eq_true rfl) ?_
  intro pp ee ss mm ar bw mt cd C hgX hr htab
  refine V.eLo (lo' := [(0, .ref (α 0)), (1, .int x), (2, .int y), (3, .ref ao)]) rfl ?_
  refine r_aload_n C 3 dL_word_0 rfl rfl ?_
  refine r_iconst C (v := nI 0) dL_word_1 (by decide) ?_
  refine r_aload_n C 0 dL_word_2 rfl rfl ?_
  refine r_iload_n C 1 dL_word_3 rfl rfl ?_
  refine r_iload_n C 2 dL_word_4 rfl rfl ?_
  refine r_xVc C hgX (ci := 13) ml_L_49 im_X11_word se_X11_word rfl rfl (hws.2.1.k 0 14 rfl) (c_X11_word l hfl G M τ hw α hws hwt hwb had x y) rfl (Nat.le_of_ble_eq_true rfl) ⟨Nat.le_of_ble_eq_true rfl, Nat.le_of_ble_eq_true rfl⟩ ⟨Nat.le_of_ble_eq_true rfl, Nat.le_of_ble_eq_true rfl⟩ dL_word_5 rfl (fun E_ M_ h_ => ?_) ?_
  · obtain ⟨hC0, rfl, rfl⟩ := h_
    rcases cd2_c (inB x (lN 0) (lN 9) && (decide (x ≠ nI 2) || inB y (lN 0) (lN 5)) && (decide (x ≠ nI 3) || inB y (-1000000) (lN 1000000))) (wdB τ x) with hC | hC | hC
    · exact absurd hC hC0
    · refine ⟨13, ?_, fun q_ => ?_⟩
      · rw [hC]; exact ⟨[], ⟨0, 10, 13, 15⟩, [⟨0, 10, 17, 17⟩], htab, (fun z_ hz_ => absurd hz_ (List.not_mem_nil)), by decide, by decide, cl_L_15, hgX.2.2.2.2.2.1.2.1, rfl⟩
      · skip
        refine r_astore C (lo' := [(4, .ref q_), (0, .ref (α 0)), (1, .int x), (2, .int y), (3, .ref ao)]) dL_word_13 (by decide) rfl ?_
        refine r_iconst C (v := nI 1) dL_word_15 (by decide) ?_
        refine V.xret ?_
        exact r_iret C hr (⟨by rw [hC], fun h_ => absurd h_ hC0, α, by rw [if_neg hC0]; exact WD.cl hw ⟨hws, hwt, hwb⟩, rfl, LQ.cl, by rw [if_neg hC0]; exact fun _ _ hz_ => hz_⟩) (by first | exact Nat.zero_le _ | decide) (by first | exact Nat.zero_le _ | decide) dL_word_16
    · refine ⟨17, ?_, fun q_ => ?_⟩
      · rw [hC]; exact ⟨[⟨0, 10, 13, 15⟩], ⟨0, 10, 17, 17⟩, [], htab, (fun z_ hz_ => by rcases List.mem_cons.mp hz_ with rfl | hz_; exact ⟨by decide, _, cl_L_15, hgX.2.2.2.2.2.1.2.2.2.2.1 ("java/lang/IllegalStateException", "java/lang/IllegalArgumentException") (by decide)⟩; exact absurd hz_ (List.not_mem_nil)), by decide, by decide, cl_L_17, hgX.2.2.2.2.2.1.2.2.1, rfl⟩
      · skip
        refine r_astore C (lo' := [(4, .ref q_), (0, .ref (α 0)), (1, .int x), (2, .int y), (3, .ref ao)]) dL_word_17 (by decide) rfl ?_
        refine r_iconst C (v := nI 2) dL_word_19 (by decide) ?_
        refine V.xret ?_
        exact r_iret C hr (⟨by rw [hC], fun h_ => absurd h_ hC0, α, by rw [if_neg hC0]; exact WD.cl hw ⟨hws, hwt, hwb⟩, rfl, LQ.cl, by rw [if_neg hC0]; exact fun _ _ hz_ => hz_⟩) (by first | exact Nat.zero_le _ | decide) (by first | exact Nat.zero_le _ | decide) dL_word_20
  rintro _ My ⟨hC, rfl, be, hWD, hb0, hCF, hXO⟩
  have hoy := hCF ao (by rw [hao]; decide) (by rw [hao]; decide) han
  have hk21 : mK My ao = 21 := hoy.1.trans hao
  have hn21 : mN My ao = 1 := hoy.2.1.trans hao1
  refine V.eSt (st' := [.int (nI (un τ 24 6 + 1)), .int (nI 0), .ref ao]) rfl ?_
  refine r_i2l C dL_word_8 ?_
  refine r_lastoreN C hk21 hn21 (by omega) (by omega) dL_word_9 ?_
  refine r_goto C (t := 21) dL_word_10 (by decide) ?_
  refine r_iconst C (v := nI 0) dL_word_21 (by decide) ?_
  refine V.xret ?_
  exact r_iret C hr (⟨by rw [hC], fun _ x_ h_ => (by cases h_; exact wL_i), be, by rw [if_pos hC]; exact hWD.fr (hwU hC) ao_fr (fun k_ hk_ e_ => hXO ao (by rw [hao]; decide) han k_ hk_ e_.symm), hb0, LQ.of hCF, by rw [if_pos hC]; exact hXO⟩) (by first | exact Nat.zero_le _ | decide) (by first | exact Nat.zero_le _ | decide) dL_word_22
set_option maxHeartbeats 1000000 in
set_option maxRecDepth 100000 in
theorem c_L_element (l : Launch) (hfl : l.flags = flags0) (G : gW) (M : Mem) (τ : Mu) (hw : WF τ) (α : Nat → Nat) (hws : WS τ G α M) (hwt : WT τ α M) (hwb : WB τ α M) (had : ∀ p, p < 6 → AD τ p) (x y : Int32) (ao : Nat) (hao : mK M ao = 21) (hao1 : mN M ao = 1) (han : ∀ k, LV τ k → ao ≠ α k) (hwU : (cd3 (inB x (lN 0) (lN (un τ 26 26)) && decide (x < nI 6)) (inB y (lN 0) (lN 63)) (elB τ x)) = 0 → WF (elU τ x.toNatClampNeg y.toNatClampNeg)) : CH l yL_element cL_element 5 (some .int) [(0, 10, 13, 13), (0, 10, 17, 15), (0, 10, 21, 17)] 8 3 18 124 G M [.ref (α 0), .int x, .int y, .ref ao] (fun v M' => LPo τ G α M ao (cd3 (inB x (lN 0) (lN (un τ 26 26)) && decide (x < nI 6)) (inB y (lN 0) (lN 63)) (elB τ x)) (elU τ x.toNatClampNeg y.toNatClampNeg) (some ((nI (un τ 26 26 + (if x.toNatClampNeg = un τ 26 26 then 1 else 0))).toInt64)) v M') := by
  refine CH.of hfl rfl (Nat.le_of_ble_eq_true rfl) ?_
  intro pp ee ss mm ar bw mt cd C hgX hr htab
  refine V.eLo (lo' := [(0, .ref (α 0)), (1, .int x), (2, .int y), (3, .ref ao)]) rfl ?_
  refine r_aload_n C 3 dL_element_0 rfl rfl ?_
  refine r_iconst C (v := nI 0) dL_element_1 (by decide) ?_
  refine r_aload_n C 0 dL_element_2 rfl rfl ?_
  refine r_iload_n C 1 dL_element_3 rfl rfl ?_
  refine r_iload_n C 2 dL_element_4 rfl rfl ?_
  refine r_xVc C hgX (ci := 13) ml_L_52 im_X11_element se_X11_element rfl rfl (hws.2.1.k 0 14 rfl) (c_X11_element l hfl G M τ hw α hws hwt hwb had x y) rfl (Nat.le_of_ble_eq_true rfl) ⟨Nat.le_of_ble_eq_true rfl, Nat.le_of_ble_eq_true rfl⟩ ⟨Nat.le_of_ble_eq_true rfl, Nat.le_of_ble_eq_true rfl⟩ dL_element_5 rfl (fun E_ M_ h_ => ?_) ?_
  · obtain ⟨hC0, rfl, rfl⟩ := h_
    rcases cd3_c (inB x (lN 0) (lN (un τ 26 26)) && decide (x < nI 6)) (inB y (lN 0) (lN 63)) (elB τ x) with hC | hC | hC | hC
    · exact absurd hC hC0
    · refine ⟨13, ?_, fun q_ => ?_⟩
      · rw [hC]; exact ⟨[], ⟨0, 10, 13, 13⟩, [⟨0, 10, 17, 15⟩, ⟨0, 10, 21, 17⟩], htab, (fun z_ hz_ => absurd hz_ (List.not_mem_nil)), by decide, by decide, cl_L_13, hgX.2.2.2.2.2.1.1, rfl⟩
      · skip
        refine r_astore C (lo' := [(4, .ref q_), (0, .ref (α 0)), (1, .int x), (2, .int y), (3, .ref ao)]) dL_element_13 (by decide) rfl ?_
        refine r_iconst C (v := nI 1) dL_element_15 (by decide) ?_
        refine V.xret ?_
        exact r_iret C hr (⟨by rw [hC], fun h_ => absurd h_ hC0, α, by rw [if_neg hC0]; exact WD.cl hw ⟨hws, hwt, hwb⟩, rfl, LQ.cl, by rw [if_neg hC0]; exact fun _ _ hz_ => hz_⟩) (by first | exact Nat.zero_le _ | decide) (by first | exact Nat.zero_le _ | decide) dL_element_16
    · refine ⟨17, ?_, fun q_ => ?_⟩
      · rw [hC]; exact ⟨[⟨0, 10, 13, 13⟩], ⟨0, 10, 17, 15⟩, [⟨0, 10, 21, 17⟩], htab, (fun z_ hz_ => by rcases List.mem_cons.mp hz_ with rfl | hz_; exact ⟨by decide, _, cl_L_13, hgX.2.2.2.2.2.1.2.2.2.2.1 ("java/lang/IllegalArgumentException", "java/lang/IndexOutOfBoundsException") (by decide)⟩; exact absurd hz_ (List.not_mem_nil)), by decide, by decide, cl_L_15, hgX.2.2.2.2.2.1.2.1, rfl⟩
      · skip
        refine r_astore C (lo' := [(4, .ref q_), (0, .ref (α 0)), (1, .int x), (2, .int y), (3, .ref ao)]) dL_element_17 (by decide) rfl ?_
        refine r_iconst C (v := nI 2) dL_element_19 (by decide) ?_
        refine V.xret ?_
        exact r_iret C hr (⟨by rw [hC], fun h_ => absurd h_ hC0, α, by rw [if_neg hC0]; exact WD.cl hw ⟨hws, hwt, hwb⟩, rfl, LQ.cl, by rw [if_neg hC0]; exact fun _ _ hz_ => hz_⟩) (by first | exact Nat.zero_le _ | decide) (by first | exact Nat.zero_le _ | decide) dL_element_20
    · refine ⟨21, ?_, fun q_ => ?_⟩
      · rw [hC]; exact ⟨[⟨0, 10, 13, 13⟩, ⟨0, 10, 17, 15⟩], ⟨0, 10, 21, 17⟩, [], htab, (fun z_ hz_ => by rcases List.mem_cons.mp hz_ with rfl | hz_; exact ⟨by decide, _, cl_L_13, hgX.2.2.2.2.2.1.2.2.2.2.1 ("java/lang/IllegalStateException", "java/lang/IndexOutOfBoundsException") (by decide)⟩; rcases List.mem_cons.mp hz_ with rfl | hz_; exact ⟨by decide, _, cl_L_15, hgX.2.2.2.2.2.1.2.2.2.2.1 ("java/lang/IllegalStateException", "java/lang/IllegalArgumentException") (by decide)⟩; exact absurd hz_ (List.not_mem_nil)), by decide, by decide, cl_L_17, hgX.2.2.2.2.2.1.2.2.1, rfl⟩
      · skip
        refine r_astore C (lo' := [(4, .ref q_), (0, .ref (α 0)), (1, .int x), (2, .int y), (3, .ref ao)]) dL_element_21 (by decide) rfl ?_
        refine r_iconst C (v := nI 3) dL_element_23 (by decide) ?_
        refine V.xret ?_
        exact r_iret C hr (⟨by rw [hC], fun h_ => absurd h_ hC0, α, by rw [if_neg hC0]; exact WD.cl hw ⟨hws, hwt, hwb⟩, rfl, LQ.cl, by rw [if_neg hC0]; exact fun _ _ hz_ => hz_⟩) (by first | exact Nat.zero_le _ | decide) (by first | exact Nat.zero_le _ | decide) dL_element_24
  rintro _ My ⟨hC, rfl, be, hWD, hb0, hCF, hXO⟩
  have hoy := hCF ao (by rw [hao]; decide) (by rw [hao]; decide) han
  have hk21 : mK My ao = 21 := hoy.1.trans hao
  have hn21 : mN My ao = 1 := hoy.2.1.trans hao1
  refine V.eSt (st' := [.int (nI (un τ 26 26 + (if x.toNatClampNeg = un τ 26 26 then 1 else 0))), .int (nI 0), .ref ao]) rfl ?_
  refine r_i2l C dL_element_8 ?_
  refine r_lastoreN C hk21 hn21 (by omega) (by omega) dL_element_9 ?_
  refine r_goto C (t := 25) dL_element_10 (by decide) ?_
  refine r_iconst C (v := nI 0) dL_element_25 (by decide) ?_
  refine V.xret ?_
  exact r_iret C hr (⟨by rw [hC], fun _ x_ h_ => (by cases h_; exact wL_i), be, by rw [if_pos hC]; exact hWD.fr (hwU hC) ao_fr (fun k_ hk_ e_ => hXO ao (by rw [hao]; decide) han k_ hk_ e_.symm), hb0, LQ.of hCF, by rw [if_pos hC]; exact hXO⟩) (by first | exact Nat.zero_le _ | decide) (by first | exact Nat.zero_le _ | decide) dL_element_26
set_option maxHeartbeats 1000000 in
set_option maxRecDepth 100000 in
theorem c_L_order (l : Launch) (hfl : l.flags = flags0) (G : gW) (M : Mem) (τ : Mu) (hw : WF τ) (α : Nat → Nat) (hws : WS τ G α M) (hwt : WT τ α M) (hwb : WB τ α M) (had : ∀ p, p < 6 → AD τ p) (x : Int32) (ao : Nat) (hao : mK M ao = 21) (hao1 : mN M ao = 1) (han : ∀ k, LV τ k → ao ≠ α k) (hwU : (cd1 (rng x (un τ 26 26))) = 0 → WF τ) : CH l yL_order cL_order 4 (some .int) [(0, 9, 12, 13)] 8 1 6 123 G M [.ref (α 0), .int x, .ref ao] (fun v M' => LPo τ G α M ao (cd1 (rng x (un τ 26 26))) τ (some ((nI (un τ 27 x.toNatClampNeg)).toInt64)) v M') := by
  refine CH.of hfl rfl (Nat.le_of_ble_eq_true rfl) ?_
  intro pp ee ss mm ar bw mt cd C hgX hr htab
  refine V.eLo (lo' := [(0, .ref (α 0)), (1, .int x), (2, .ref ao)]) rfl ?_
  refine r_aload_n C 2 dL_order_0 rfl rfl ?_
  refine r_iconst C (v := nI 0) dL_order_1 (by decide) ?_
  refine r_aload_n C 0 dL_order_2 rfl rfl ?_
  refine r_iload_n C 1 dL_order_3 rfl rfl ?_
  refine r_xVc C hgX (ci := 13) ml_L_55 im_X11_order se_X11_order rfl rfl (hws.2.1.k 0 14 rfl) (c_X11_order l hfl G M τ hw α hws hwt hwb had x) rfl (Nat.le_of_ble_eq_true rfl) ⟨Nat.le_of_ble_eq_true rfl, Nat.le_of_ble_eq_true rfl⟩ ⟨Nat.le_of_ble_eq_true rfl, Nat.le_of_ble_eq_true rfl⟩ dL_order_4 rfl (fun E_ M_ h_ => ?_) ?_
  · obtain ⟨hC0, rfl, rfl⟩ := h_
    rcases cd1_c (rng x (un τ 26 26)) with hC | hC
    · exact absurd hC hC0
    · refine ⟨12, ?_, fun q_ => ?_⟩
      · rw [hC]; exact ⟨[], ⟨0, 9, 12, 13⟩, [], htab, (fun z_ hz_ => absurd hz_ (List.not_mem_nil)), by decide, by decide, cl_L_13, hgX.2.2.2.2.2.1.1, rfl⟩
      · skip
        refine r_astore_n C (lo' := [(3, .ref q_), (0, .ref (α 0)), (1, .int x), (2, .ref ao)]) dL_order_12 rfl (by decide) rfl ?_
        refine r_iconst C (v := nI 1) dL_order_13 (by decide) ?_
        refine V.xret ?_
        exact r_iret C hr (⟨by rw [hC], fun h_ => absurd h_ hC0, α, by rw [if_neg hC0]; exact WD.cl hw ⟨hws, hwt, hwb⟩, rfl, LQ.cl, by rw [if_neg hC0]; exact fun _ _ hz_ => hz_⟩) (by first | exact Nat.zero_le _ | decide) (by first | exact Nat.zero_le _ | decide) dL_order_14
  rintro _ My ⟨hC, rfl, be, hWD, hb0, hCF, hXO⟩
  have hoy := hCF ao (by rw [hao]; decide) (by rw [hao]; decide) han
  have hk21 : mK My ao = 21 := hoy.1.trans hao
  have hn21 : mN My ao = 1 := hoy.2.1.trans hao1
  refine V.eSt (st' := [.int (nI (un τ 27 x.toNatClampNeg)), .int (nI 0), .ref ao]) rfl ?_
  refine r_i2l C dL_order_7 ?_
  refine r_lastoreN C hk21 hn21 (by omega) (by omega) dL_order_8 ?_
  refine r_goto C (t := 15) dL_order_9 (by decide) ?_
  refine r_iconst C (v := nI 0) dL_order_15 (by decide) ?_
  refine V.xret ?_
  exact r_iret C hr (⟨by rw [hC], fun _ x_ h_ => (by cases h_; exact wL_i), be, by rw [if_pos hC]; exact hWD.fr (hwU hC) ao_fr (fun k_ hk_ e_ => hXO ao (by rw [hao]; decide) han k_ hk_ e_.symm), hb0, LQ.of hCF, by rw [if_pos hC]; exact hXO⟩) (by first | exact Nat.zero_le _ | decide) (by first | exact Nat.zero_le _ | decide) dL_order_16
set_option maxHeartbeats 1000000 in
set_option maxRecDepth 100000 in
theorem c_L_bonus (l : Launch) (hfl : l.flags = flags0) (G : gW) (M : Mem) (τ : Mu) (hw : WF τ) (α : Nat → Nat) (hws : WS τ G α M) (hwt : WT τ α M) (hwb : WB τ α M) (had : ∀ p, p < 6 → AD τ p) (x y z t : Int32) (ao : Nat) (hao : mK M ao = 21) (hao1 : mN M ao = 1) (han : ∀ k, LV τ k → ao ≠ α k) (hwU : (cd2 (rng x 6 && rng y 24 && rng z 3) (inB t (-10000000) (lN 10000000))) = 0 → WF (sI τ 30 (72 * x.toNatClampNeg + 3 * y.toNatClampNeg + z.toNatClampNeg) t)) : CH l yL_bonus cL_bonus 7 (some .int) [(0, 14, 17, 13), (0, 14, 21, 15)] 8 2 12 128 G M [.ref (α 0), .int x, .int y, .int z, .int t, .ref ao] (fun v M' => LPo τ G α M ao (cd2 (rng x 6 && rng y 24 && rng z 3) (inB t (-10000000) (lN 10000000))) (sI τ 30 (72 * x.toNatClampNeg + 3 * y.toNatClampNeg + z.toNatClampNeg) t) (some ((τ.1 30 (72 * x.toNatClampNeg + 3 * y.toNatClampNeg + z.toNatClampNeg)).toInt64)) v M') := by
  refine CH.of hfl rfl (Nat.le_of_ble_eq_true rfl) ?_
  intro pp ee ss mm ar bw mt cd C hgX hr htab
  refine V.eLo (lo' := [(0, .ref (α 0)), (1, .int x), (2, .int y), (3, .int z), (4, .int t), (5, .ref ao)]) rfl ?_
  refine r_aload C 5 dL_bonus_0 rfl ?_
  refine r_iconst C (v := nI 0) dL_bonus_2 (by decide) ?_
  refine r_aload_n C 0 dL_bonus_3 rfl rfl ?_
  refine r_iload_n C 1 dL_bonus_4 rfl rfl ?_
  refine r_iload_n C 2 dL_bonus_5 rfl rfl ?_
  refine r_iload_n C 3 dL_bonus_6 rfl rfl ?_
  refine r_iload C 4 dL_bonus_7 rfl ?_
  refine r_xVc C hgX (ci := 13) ml_L_59 im_X11_bonus se_X11_bonus rfl rfl (hws.2.1.k 0 14 rfl) (c_X11_bonus l hfl G M τ hw α hws hwt hwb had x y z t) rfl (Nat.le_of_ble_eq_true rfl) ⟨Nat.le_of_ble_eq_true rfl, Nat.le_of_ble_eq_true rfl⟩ ⟨Nat.le_of_ble_eq_true rfl, Nat.le_of_ble_eq_true rfl⟩ dL_bonus_9 rfl (fun E_ M_ h_ => ?_) ?_
  · obtain ⟨hC0, rfl, rfl⟩ := h_
    rcases cd2_c (rng x 6 && rng y 24 && rng z 3) (inB t (-10000000) (lN 10000000)) with hC | hC | hC
    · exact absurd hC hC0
    · refine ⟨17, ?_, fun q_ => ?_⟩
      · rw [hC]; exact ⟨[], ⟨0, 14, 17, 13⟩, [⟨0, 14, 21, 15⟩], htab, (fun z_ hz_ => absurd hz_ (List.not_mem_nil)), by decide, by decide, cl_L_13, hgX.2.2.2.2.2.1.1, rfl⟩
      · skip
        refine r_astore C (lo' := [(6, .ref q_), (0, .ref (α 0)), (1, .int x), (2, .int y), (3, .int z), (4, .int t), (5, .ref ao)]) dL_bonus_17 (by decide) rfl ?_
        refine r_iconst C (v := nI 1) dL_bonus_19 (by decide) ?_
        refine V.xret ?_
        exact r_iret C hr (⟨by rw [hC], fun h_ => absurd h_ hC0, α, by rw [if_neg hC0]; exact WD.cl hw ⟨hws, hwt, hwb⟩, rfl, LQ.cl, by rw [if_neg hC0]; exact fun _ _ hz_ => hz_⟩) (by first | exact Nat.zero_le _ | decide) (by first | exact Nat.zero_le _ | decide) dL_bonus_20
    · refine ⟨21, ?_, fun q_ => ?_⟩
      · rw [hC]; exact ⟨[⟨0, 14, 17, 13⟩], ⟨0, 14, 21, 15⟩, [], htab, (fun z_ hz_ => by rcases List.mem_cons.mp hz_ with rfl | hz_; exact ⟨by decide, _, cl_L_13, hgX.2.2.2.2.2.1.2.2.2.2.1 ("java/lang/IllegalArgumentException", "java/lang/IndexOutOfBoundsException") (by decide)⟩; exact absurd hz_ (List.not_mem_nil)), by decide, by decide, cl_L_15, hgX.2.2.2.2.2.1.2.1, rfl⟩
      · skip
        refine r_astore C (lo' := [(6, .ref q_), (0, .ref (α 0)), (1, .int x), (2, .int y), (3, .int z), (4, .int t), (5, .ref ao)]) dL_bonus_21 (by decide) rfl ?_
        refine r_iconst C (v := nI 2) dL_bonus_23 (by decide) ?_
        refine V.xret ?_
        exact r_iret C hr (⟨by rw [hC], fun h_ => absurd h_ hC0, α, by rw [if_neg hC0]; exact WD.cl hw ⟨hws, hwt, hwb⟩, rfl, LQ.cl, by rw [if_neg hC0]; exact fun _ _ hz_ => hz_⟩) (by first | exact Nat.zero_le _ | decide) (by first | exact Nat.zero_le _ | decide) dL_bonus_24
  rintro _ My ⟨hC, rfl, be, hWD, hb0, hCF, hXO⟩
  have hoy := hCF ao (by rw [hao]; decide) (by rw [hao]; decide) han
  have hk21 : mK My ao = 21 := hoy.1.trans hao
  have hn21 : mN My ao = 1 := hoy.2.1.trans hao1
  refine V.eSt (st' := [.int (τ.1 30 (72 * x.toNatClampNeg + 3 * y.toNatClampNeg + z.toNatClampNeg)), .int (nI 0), .ref ao]) rfl ?_
  refine r_i2l C dL_bonus_12 ?_
  refine r_lastoreN C hk21 hn21 (by omega) (by omega) dL_bonus_13 ?_
  refine r_goto C (t := 25) dL_bonus_14 (by decide) ?_
  refine r_iconst C (v := nI 0) dL_bonus_25 (by decide) ?_
  refine V.xret ?_
  exact r_iret C hr (⟨by rw [hC], fun _ x_ h_ => (by cases h_; exact wL_i), be, by rw [if_pos hC]; exact hWD.fr (hwU hC) ao_fr (fun k_ hk_ e_ => hXO ao (by rw [hao]; decide) han k_ hk_ e_.symm), hb0, LQ.of hCF, by rw [if_pos hC]; exact hXO⟩) (by first | exact Nat.zero_le _ | decide) (by first | exact Nat.zero_le _ | decide) dL_bonus_26
set_option maxHeartbeats 1000000 in
set_option maxRecDepth 100000 in
theorem c_L_contribution (l : Launch) (hfl : l.flags = flags0) (G : gW) (M : Mem) (τ : Mu) (hw : WF τ) (α : Nat → Nat) (hws : WS τ G α M) (hwt : WT τ α M) (hwb : WB τ α M) (had : ∀ p, p < 6 → AD τ p) (x y z t : Int32) (ao : Nat) (hwU : (cd2 (rng x 3 && rng y 24) (inB z (lN 0) (lN 500) && inB t (lN 0) (lN 100000000))) = 0 → WF (sI (sI τ 31 (24 * x.toNatClampNeg + y.toNatClampNeg) z) 32 (24 * x.toNatClampNeg + y.toNatClampNeg) t)) : CH l yL_contribution cL_contribution 6 (some .int) [(0, 9, 12, 13), (0, 9, 16, 15)] 8 2 12 126 G M [.ref (α 0), .int x, .int y, .int z, .int t] (fun v M' => LPo τ G α M ao (cd2 (rng x 3 && rng y 24) (inB z (lN 0) (lN 500) && inB t (lN 0) (lN 100000000))) (sI (sI τ 31 (24 * x.toNatClampNeg + y.toNatClampNeg) z) 32 (24 * x.toNatClampNeg + y.toNatClampNeg) t) none v M') := by
  refine CH.of hfl rfl (Nat.le_of_ble_eq_true rfl) ?_
  intro pp ee ss mm ar bw mt cd C hgX hr htab
  refine V.eLo (lo' := [(0, .ref (α 0)), (1, .int x), (2, .int y), (3, .int z), (4, .int t)]) rfl ?_
  refine r_aload_n C 0 dL_contribution_0 rfl rfl ?_
  refine r_iload_n C 1 dL_contribution_1 rfl rfl ?_
  refine r_iload_n C 2 dL_contribution_2 rfl rfl ?_
  refine r_iload_n C 3 dL_contribution_3 rfl rfl ?_
  refine r_iload C 4 dL_contribution_4 rfl ?_
  refine r_xVc C hgX (ci := 13) ml_L_62 im_X11_contribution se_X11_contribution rfl rfl (hws.2.1.k 0 14 rfl) (c_X11_contribution l hfl G M τ hw α hws hwt hwb had x y z t) rfl (Nat.le_of_ble_eq_true rfl) ⟨Nat.le_of_ble_eq_true rfl, Nat.le_of_ble_eq_true rfl⟩ ⟨Nat.le_of_ble_eq_true rfl, Nat.le_of_ble_eq_true rfl⟩ dL_contribution_6 rfl (fun E_ M_ h_ => ?_) ?_
  · obtain ⟨hC0, rfl, rfl⟩ := h_
    rcases cd2_c (rng x 3 && rng y 24) (inB z (lN 0) (lN 500) && inB t (lN 0) (lN 100000000)) with hC | hC | hC
    · exact absurd hC hC0
    · refine ⟨12, ?_, fun q_ => ?_⟩
      · rw [hC]; exact ⟨[], ⟨0, 9, 12, 13⟩, [⟨0, 9, 16, 15⟩], htab, (fun z_ hz_ => absurd hz_ (List.not_mem_nil)), by decide, by decide, cl_L_13, hgX.2.2.2.2.2.1.1, rfl⟩
      · skip
        refine r_astore C (lo' := [(5, .ref q_), (0, .ref (α 0)), (1, .int x), (2, .int y), (3, .int z), (4, .int t)]) dL_contribution_12 (by decide) rfl ?_
        refine r_iconst C (v := nI 1) dL_contribution_14 (by decide) ?_
        refine V.xret ?_
        exact r_iret C hr (⟨by rw [hC], fun h_ => absurd h_ hC0, α, by rw [if_neg hC0]; exact WD.cl hw ⟨hws, hwt, hwb⟩, rfl, LQ.cl, by rw [if_neg hC0]; exact fun _ _ hz_ => hz_⟩) (by first | exact Nat.zero_le _ | decide) (by first | exact Nat.zero_le _ | decide) dL_contribution_15
    · refine ⟨16, ?_, fun q_ => ?_⟩
      · rw [hC]; exact ⟨[⟨0, 9, 12, 13⟩], ⟨0, 9, 16, 15⟩, [], htab, (fun z_ hz_ => by rcases List.mem_cons.mp hz_ with rfl | hz_; exact ⟨by decide, _, cl_L_13, hgX.2.2.2.2.2.1.2.2.2.2.1 ("java/lang/IllegalArgumentException", "java/lang/IndexOutOfBoundsException") (by decide)⟩; exact absurd hz_ (List.not_mem_nil)), by decide, by decide, cl_L_15, hgX.2.2.2.2.2.1.2.1, rfl⟩
      · skip
        refine r_astore C (lo' := [(5, .ref q_), (0, .ref (α 0)), (1, .int x), (2, .int y), (3, .int z), (4, .int t)]) dL_contribution_16 (by decide) rfl ?_
        refine r_iconst C (v := nI 2) dL_contribution_18 (by decide) ?_
        refine V.xret ?_
        exact r_iret C hr (⟨by rw [hC], fun h_ => absurd h_ hC0, α, by rw [if_neg hC0]; exact WD.cl hw ⟨hws, hwt, hwb⟩, rfl, LQ.cl, by rw [if_neg hC0]; exact fun _ _ hz_ => hz_⟩) (by first | exact Nat.zero_le _ | decide) (by first | exact Nat.zero_le _ | decide) dL_contribution_19
  rintro _ My ⟨hC, rfl, be, hWD, hb0, hCF, hXO⟩
  refine r_goto C (t := 20) dL_contribution_9 (by decide) ?_
  refine r_iconst C (v := nI 0) dL_contribution_20 (by decide) ?_
  refine V.xret ?_
  exact r_iret C hr (⟨by rw [hC], fun _ x_ h_ => (by cases h_), be, by rw [if_pos hC]; exact hWD, hb0, LQ.of0 hCF, by rw [if_pos hC]; exact hXO⟩) (by first | exact Nat.zero_le _ | decide) (by first | exact Nat.zero_le _ | decide) dL_contribution_21
set_option maxHeartbeats 1000000 in
set_option maxRecDepth 100000 in
theorem c_L_bracket (l : Launch) (hfl : l.flags = flags0) (G : gW) (M : Mem) (τ : Mu) (hw : WF τ) (α : Nat → Nat) (hws : WS τ G α M) (hwt : WT τ α M) (hwb : WB τ α M) (had : ∀ p, p < 6 → AD τ p) (x y z t n : Int32) (ao : Nat) (hao : mK M ao = 21) (hao1 : mN M ao = 1) (han : ∀ k, LV τ k → ao ≠ α k) (hwU : (cd3 (rng x 3 && rng z 24) (inB y (lN 0) (lN 1) && inB t (lN 1) (lN 1000000000) && inB n (lN 0) (lN 900)) (brB τ (brI x y z t n) t)) = 0 → WF (sI (sI (sI τ 34 (4 * (brI x y z t n) + un τ 33 (brI x y z t n)) t) 35 (4 * (brI x y z t n) + un τ 33 (brI x y z t n)) n) 33 (brI x y z t n) (nI (un τ 33 (brI x y z t n) + 1)))) : CH l yL_bracket cL_bracket 8 (some .int) [(0, 16, 19, 13), (0, 16, 23, 15), (0, 16, 27, 17)] 8 3 18 128 G M [.ref (α 0), .int x, .int y, .int z, .int t, .int n, .ref ao] (fun v M' => LPo τ G α M ao (cd3 (rng x 3 && rng z 24) (inB y (lN 0) (lN 1) && inB t (lN 1) (lN 1000000000) && inB n (lN 0) (lN 900)) (brB τ (brI x y z t n) t)) (sI (sI (sI τ 34 (4 * (brI x y z t n) + un τ 33 (brI x y z t n)) t) 35 (4 * (brI x y z t n) + un τ 33 (brI x y z t n)) n) 33 (brI x y z t n) (nI (un τ 33 (brI x y z t n) + 1))) (some ((nI (un τ 33 (brI x y z t n) + 1)).toInt64)) v M') := by
  refine CH.of hfl rfl (Nat.le_of_ble_eq_true rfl) ?_
  intro pp ee ss mm ar bw mt cd C hgX hr htab
  refine V.eLo (lo' := [(0, .ref (α 0)), (1, .int x), (2, .int y), (3, .int z), (4, .int t), (5, .int n), (6, .ref ao)]) rfl ?_
  refine r_aload C 6 dL_bracket_0 rfl ?_
  refine r_iconst C (v := nI 0) dL_bracket_2 (by decide) ?_
  refine r_aload_n C 0 dL_bracket_3 rfl rfl ?_
  refine r_iload_n C 1 dL_bracket_4 rfl rfl ?_
  refine r_iload_n C 2 dL_bracket_5 rfl rfl ?_
  refine r_iload_n C 3 dL_bracket_6 rfl rfl ?_
  refine r_iload C 4 dL_bracket_7 rfl ?_
  refine r_iload C 5 dL_bracket_9 rfl ?_
  refine r_xVc C hgX (ci := 13) ml_L_66 im_X11_bracket se_X11_bracket rfl rfl (hws.2.1.k 0 14 rfl) (c_X11_bracket l hfl G M τ hw α hws hwt hwb had x y z t n) rfl (Nat.le_of_ble_eq_true rfl) ⟨Nat.le_of_ble_eq_true rfl, Nat.le_of_ble_eq_true rfl⟩ ⟨Nat.le_of_ble_eq_true rfl, Nat.le_of_ble_eq_true rfl⟩ dL_bracket_11 rfl (fun E_ M_ h_ => ?_) ?_
  · obtain ⟨hC0, rfl, rfl⟩ := h_
    rcases cd3_c (rng x 3 && rng z 24) (inB y (lN 0) (lN 1) && inB t (lN 1) (lN 1000000000) && inB n (lN 0) (lN 900)) (brB τ (brI x y z t n) t) with hC | hC | hC | hC
    · exact absurd hC hC0
    · refine ⟨19, ?_, fun q_ => ?_⟩
      · rw [hC]; exact ⟨[], ⟨0, 16, 19, 13⟩, [⟨0, 16, 23, 15⟩, ⟨0, 16, 27, 17⟩], htab, (fun z_ hz_ => absurd hz_ (List.not_mem_nil)), by decide, by decide, cl_L_13, hgX.2.2.2.2.2.1.1, rfl⟩
      · skip
        refine r_astore C (lo' := [(7, .ref q_), (0, .ref (α 0)), (1, .int x), (2, .int y), (3, .int z), (4, .int t), (5, .int n), (6, .ref ao)]) dL_bracket_19 (by decide) rfl ?_
        refine r_iconst C (v := nI 1) dL_bracket_21 (by decide) ?_
        refine V.xret ?_
        exact r_iret C hr (⟨by rw [hC], fun h_ => absurd h_ hC0, α, by rw [if_neg hC0]; exact WD.cl hw ⟨hws, hwt, hwb⟩, rfl, LQ.cl, by rw [if_neg hC0]; exact fun _ _ hz_ => hz_⟩) (by first | exact Nat.zero_le _ | decide) (by first | exact Nat.zero_le _ | decide) dL_bracket_22
    · refine ⟨23, ?_, fun q_ => ?_⟩
      · rw [hC]; exact ⟨[⟨0, 16, 19, 13⟩], ⟨0, 16, 23, 15⟩, [⟨0, 16, 27, 17⟩], htab, (fun z_ hz_ => by rcases List.mem_cons.mp hz_ with rfl | hz_; exact ⟨by decide, _, cl_L_13, hgX.2.2.2.2.2.1.2.2.2.2.1 ("java/lang/IllegalArgumentException", "java/lang/IndexOutOfBoundsException") (by decide)⟩; exact absurd hz_ (List.not_mem_nil)), by decide, by decide, cl_L_15, hgX.2.2.2.2.2.1.2.1, rfl⟩
      · skip
        refine r_astore C (lo' := [(7, .ref q_), (0, .ref (α 0)), (1, .int x), (2, .int y), (3, .int z), (4, .int t), (5, .int n), (6, .ref ao)]) dL_bracket_23 (by decide) rfl ?_
        refine r_iconst C (v := nI 2) dL_bracket_25 (by decide) ?_
        refine V.xret ?_
        exact r_iret C hr (⟨by rw [hC], fun h_ => absurd h_ hC0, α, by rw [if_neg hC0]; exact WD.cl hw ⟨hws, hwt, hwb⟩, rfl, LQ.cl, by rw [if_neg hC0]; exact fun _ _ hz_ => hz_⟩) (by first | exact Nat.zero_le _ | decide) (by first | exact Nat.zero_le _ | decide) dL_bracket_26
    · refine ⟨27, ?_, fun q_ => ?_⟩
      · rw [hC]; exact ⟨[⟨0, 16, 19, 13⟩, ⟨0, 16, 23, 15⟩], ⟨0, 16, 27, 17⟩, [], htab, (fun z_ hz_ => by rcases List.mem_cons.mp hz_ with rfl | hz_; exact ⟨by decide, _, cl_L_13, hgX.2.2.2.2.2.1.2.2.2.2.1 ("java/lang/IllegalStateException", "java/lang/IndexOutOfBoundsException") (by decide)⟩; rcases List.mem_cons.mp hz_ with rfl | hz_; exact ⟨by decide, _, cl_L_15, hgX.2.2.2.2.2.1.2.2.2.2.1 ("java/lang/IllegalStateException", "java/lang/IllegalArgumentException") (by decide)⟩; exact absurd hz_ (List.not_mem_nil)), by decide, by decide, cl_L_17, hgX.2.2.2.2.2.1.2.2.1, rfl⟩
      · skip
        refine r_astore C (lo' := [(7, .ref q_), (0, .ref (α 0)), (1, .int x), (2, .int y), (3, .int z), (4, .int t), (5, .int n), (6, .ref ao)]) dL_bracket_27 (by decide) rfl ?_
        refine r_iconst C (v := nI 3) dL_bracket_29 (by decide) ?_
        refine V.xret ?_
        exact r_iret C hr (⟨by rw [hC], fun h_ => absurd h_ hC0, α, by rw [if_neg hC0]; exact WD.cl hw ⟨hws, hwt, hwb⟩, rfl, LQ.cl, by rw [if_neg hC0]; exact fun _ _ hz_ => hz_⟩) (by first | exact Nat.zero_le _ | decide) (by first | exact Nat.zero_le _ | decide) dL_bracket_30
  rintro _ My ⟨hC, rfl, be, hWD, hb0, hCF, hXO⟩
  have hoy := hCF ao (by rw [hao]; decide) (by rw [hao]; decide) han
  have hk21 : mK My ao = 21 := hoy.1.trans hao
  have hn21 : mN My ao = 1 := hoy.2.1.trans hao1
  refine V.eSt (st' := [.int (nI (un τ 33 (brI x y z t n) + 1)), .int (nI 0), .ref ao]) rfl ?_
  refine r_i2l C dL_bracket_14 ?_
  refine r_lastoreN C hk21 hn21 (by omega) (by omega) dL_bracket_15 ?_
  refine r_goto C (t := 31) dL_bracket_16 (by decide) ?_
  refine r_iconst C (v := nI 0) dL_bracket_31 (by decide) ?_
  refine V.xret ?_
  exact r_iret C hr (⟨by rw [hC], fun _ x_ h_ => (by cases h_; exact wL_i), be, by rw [if_pos hC]; exact hWD.fr (hwU hC) ao_fr (fun k_ hk_ e_ => hXO ao (by rw [hao]; decide) han k_ hk_ e_.symm), hb0, LQ.of hCF, by rw [if_pos hC]; exact hXO⟩) (by first | exact Nat.zero_le _ | decide) (by first | exact Nat.zero_le _ | decide) dL_bracket_32
set_option maxHeartbeats 1000000 in
set_option maxRecDepth 100000 in
theorem c_L_state (l : Launch) (hfl : l.flags = flags0) (G : gW) (M : Mem) (τ : Mu) (hw : WF τ) (α : Nat → Nat) (hws : WS τ G α M) (hwt : WT τ α M) (hwb : WB τ α M) (had : ∀ p, p < 6 → AD τ p) (x y z : Int32) (ao : Nat) (hwU : (cd2 (rng x 6 && rng y 24) (inB z (lN 0) (lN 1))) = 0 → WF (sI τ 36 (24 * x.toNatClampNeg + y.toNatClampNeg) z)) : CH l yL_state cL_state 5 (some .int) [(0, 7, 10, 13), (0, 7, 14, 15)] 8 2 12 125 G M [.ref (α 0), .int x, .int y, .int z] (fun v M' => LPo τ G α M ao (cd2 (rng x 6 && rng y 24) (inB z (lN 0) (lN 1))) (sI τ 36 (24 * x.toNatClampNeg + y.toNatClampNeg) z) none v M') := by
  refine CH.of hfl rfl (Nat.le_of_ble_eq_true rfl) ?_
  intro pp ee ss mm ar bw mt cd C hgX hr htab
  refine V.eLo (lo' := [(0, .ref (α 0)), (1, .int x), (2, .int y), (3, .int z)]) rfl ?_
  refine r_aload_n C 0 dL_state_0 rfl rfl ?_
  refine r_iload_n C 1 dL_state_1 rfl rfl ?_
  refine r_iload_n C 2 dL_state_2 rfl rfl ?_
  refine r_iload_n C 3 dL_state_3 rfl rfl ?_
  refine r_xVc C hgX (ci := 13) ml_L_70 im_X11_state se_X11_state rfl rfl (hws.2.1.k 0 14 rfl) (c_X11_state l hfl G M τ hw α hws hwt hwb had x y z) rfl (Nat.le_of_ble_eq_true rfl) ⟨Nat.le_of_ble_eq_true rfl, Nat.le_of_ble_eq_true rfl⟩ ⟨Nat.le_of_ble_eq_true rfl, Nat.le_of_ble_eq_true rfl⟩ dL_state_4 rfl (fun E_ M_ h_ => ?_) ?_
  · obtain ⟨hC0, rfl, rfl⟩ := h_
    rcases cd2_c (rng x 6 && rng y 24) (inB z (lN 0) (lN 1)) with hC | hC | hC
    · exact absurd hC hC0
    · refine ⟨10, ?_, fun q_ => ?_⟩
      · rw [hC]; exact ⟨[], ⟨0, 7, 10, 13⟩, [⟨0, 7, 14, 15⟩], htab, (fun z_ hz_ => absurd hz_ (List.not_mem_nil)), by decide, by decide, cl_L_13, hgX.2.2.2.2.2.1.1, rfl⟩
      · skip
        refine r_astore C (lo' := [(4, .ref q_), (0, .ref (α 0)), (1, .int x), (2, .int y), (3, .int z)]) dL_state_10 (by decide) rfl ?_
        refine r_iconst C (v := nI 1) dL_state_12 (by decide) ?_
        refine V.xret ?_
        exact r_iret C hr (⟨by rw [hC], fun h_ => absurd h_ hC0, α, by rw [if_neg hC0]; exact WD.cl hw ⟨hws, hwt, hwb⟩, rfl, LQ.cl, by rw [if_neg hC0]; exact fun _ _ hz_ => hz_⟩) (by first | exact Nat.zero_le _ | decide) (by first | exact Nat.zero_le _ | decide) dL_state_13
    · refine ⟨14, ?_, fun q_ => ?_⟩
      · rw [hC]; exact ⟨[⟨0, 7, 10, 13⟩], ⟨0, 7, 14, 15⟩, [], htab, (fun z_ hz_ => by rcases List.mem_cons.mp hz_ with rfl | hz_; exact ⟨by decide, _, cl_L_13, hgX.2.2.2.2.2.1.2.2.2.2.1 ("java/lang/IllegalArgumentException", "java/lang/IndexOutOfBoundsException") (by decide)⟩; exact absurd hz_ (List.not_mem_nil)), by decide, by decide, cl_L_15, hgX.2.2.2.2.2.1.2.1, rfl⟩
      · skip
        refine r_astore C (lo' := [(4, .ref q_), (0, .ref (α 0)), (1, .int x), (2, .int y), (3, .int z)]) dL_state_14 (by decide) rfl ?_
        refine r_iconst C (v := nI 2) dL_state_16 (by decide) ?_
        refine V.xret ?_
        exact r_iret C hr (⟨by rw [hC], fun h_ => absurd h_ hC0, α, by rw [if_neg hC0]; exact WD.cl hw ⟨hws, hwt, hwb⟩, rfl, LQ.cl, by rw [if_neg hC0]; exact fun _ _ hz_ => hz_⟩) (by first | exact Nat.zero_le _ | decide) (by first | exact Nat.zero_le _ | decide) dL_state_17
  rintro _ My ⟨hC, rfl, be, hWD, hb0, hCF, hXO⟩
  refine r_goto C (t := 18) dL_state_7 (by decide) ?_
  refine r_iconst C (v := nI 0) dL_state_18 (by decide) ?_
  refine V.xret ?_
  exact r_iret C hr (⟨by rw [hC], fun _ x_ h_ => (by cases h_), be, by rw [if_pos hC]; exact hWD, hb0, LQ.of0 hCF, by rw [if_pos hC]; exact hXO⟩) (by first | exact Nat.zero_le _ | decide) (by first | exact Nat.zero_le _ | decide) dL_state_19
set_option maxHeartbeats 1000000 in
set_option maxRecDepth 100000 in
theorem c_L_pension (l : Launch) (hfl : l.flags = flags0) (G : gW) (M : Mem) (τ : Mu) (hw : WF τ) (α : Nat → Nat) (hws : WS τ G α M) (hwt : WT τ α M) (hwb : WB τ α M) (had : ∀ p, p < 6 → AD τ p) (x y z : Int32) (ao : Nat) (hwU : (cd2 (rng x 6 && rng y 24) (inB z (lN 0) (lN 200))) = 0 → WF (sI τ 37 (24 * x.toNatClampNeg + y.toNatClampNeg) z)) : CH l yL_pension cL_pension 5 (some .int) [(0, 7, 10, 13), (0, 7, 14, 15)] 8 2 12 125 G M [.ref (α 0), .int x, .int y, .int z] (fun v M' => LPo τ G α M ao (cd2 (rng x 6 && rng y 24) (inB z (lN 0) (lN 200))) (sI τ 37 (24 * x.toNatClampNeg + y.toNatClampNeg) z) none v M') := by
  refine CH.of hfl rfl (Nat.le_of_ble_eq_true rfl) ?_
  intro pp ee ss mm ar bw mt cd C hgX hr htab
  refine V.eLo (lo' := [(0, .ref (α 0)), (1, .int x), (2, .int y), (3, .int z)]) rfl ?_
  refine r_aload_n C 0 dL_pension_0 rfl rfl ?_
  refine r_iload_n C 1 dL_pension_1 rfl rfl ?_
  refine r_iload_n C 2 dL_pension_2 rfl rfl ?_
  refine r_iload_n C 3 dL_pension_3 rfl rfl ?_
  refine r_xVc C hgX (ci := 13) ml_L_73 im_X11_pension se_X11_pension rfl rfl (hws.2.1.k 0 14 rfl) (c_X11_pension l hfl G M τ hw α hws hwt hwb had x y z) rfl (Nat.le_of_ble_eq_true rfl) ⟨Nat.le_of_ble_eq_true rfl, Nat.le_of_ble_eq_true rfl⟩ ⟨Nat.le_of_ble_eq_true rfl, Nat.le_of_ble_eq_true rfl⟩ dL_pension_4 rfl (fun E_ M_ h_ => ?_) ?_
  · obtain ⟨hC0, rfl, rfl⟩ := h_
    rcases cd2_c (rng x 6 && rng y 24) (inB z (lN 0) (lN 200)) with hC | hC | hC
    · exact absurd hC hC0
    · refine ⟨10, ?_, fun q_ => ?_⟩
      · rw [hC]; exact ⟨[], ⟨0, 7, 10, 13⟩, [⟨0, 7, 14, 15⟩], htab, (fun z_ hz_ => absurd hz_ (List.not_mem_nil)), by decide, by decide, cl_L_13, hgX.2.2.2.2.2.1.1, rfl⟩
      · skip
        refine r_astore C (lo' := [(4, .ref q_), (0, .ref (α 0)), (1, .int x), (2, .int y), (3, .int z)]) dL_pension_10 (by decide) rfl ?_
        refine r_iconst C (v := nI 1) dL_pension_12 (by decide) ?_
        refine V.xret ?_
        exact r_iret C hr (⟨by rw [hC], fun h_ => absurd h_ hC0, α, by rw [if_neg hC0]; exact WD.cl hw ⟨hws, hwt, hwb⟩, rfl, LQ.cl, by rw [if_neg hC0]; exact fun _ _ hz_ => hz_⟩) (by first | exact Nat.zero_le _ | decide) (by first | exact Nat.zero_le _ | decide) dL_pension_13
    · refine ⟨14, ?_, fun q_ => ?_⟩
      · rw [hC]; exact ⟨[⟨0, 7, 10, 13⟩], ⟨0, 7, 14, 15⟩, [], htab, (fun z_ hz_ => by rcases List.mem_cons.mp hz_ with rfl | hz_; exact ⟨by decide, _, cl_L_13, hgX.2.2.2.2.2.1.2.2.2.2.1 ("java/lang/IllegalArgumentException", "java/lang/IndexOutOfBoundsException") (by decide)⟩; exact absurd hz_ (List.not_mem_nil)), by decide, by decide, cl_L_15, hgX.2.2.2.2.2.1.2.1, rfl⟩
      · skip
        refine r_astore C (lo' := [(4, .ref q_), (0, .ref (α 0)), (1, .int x), (2, .int y), (3, .int z)]) dL_pension_14 (by decide) rfl ?_
        refine r_iconst C (v := nI 2) dL_pension_16 (by decide) ?_
        refine V.xret ?_
        exact r_iret C hr (⟨by rw [hC], fun h_ => absurd h_ hC0, α, by rw [if_neg hC0]; exact WD.cl hw ⟨hws, hwt, hwb⟩, rfl, LQ.cl, by rw [if_neg hC0]; exact fun _ _ hz_ => hz_⟩) (by first | exact Nat.zero_le _ | decide) (by first | exact Nat.zero_le _ | decide) dL_pension_17
  rintro _ My ⟨hC, rfl, be, hWD, hb0, hCF, hXO⟩
  refine r_goto C (t := 18) dL_pension_7 (by decide) ?_
  refine r_iconst C (v := nI 0) dL_pension_18 (by decide) ?_
  refine V.xret ?_
  exact r_iret C hr (⟨by rw [hC], fun _ x_ h_ => (by cases h_), be, by rw [if_pos hC]; exact hWD, hb0, LQ.of0 hCF, by rw [if_pos hC]; exact hXO⟩) (by first | exact Nat.zero_le _ | decide) (by first | exact Nat.zero_le _ | decide) dL_pension_19
set_option maxHeartbeats 1000000 in
set_option maxRecDepth 100000 in
theorem c_L_yearTax (l : Launch) (hfl : l.flags = flags0) (G : gW) (M : Mem) (τ : Mu) (hw : WF τ) (α : Nat → Nat) (hws : WS τ G α M) (hwt : WT τ α M) (hwb : WB τ α M) (had : ∀ p, p < 6 → AD τ p) (x y z : Int32) (a : Int64) (ao : Nat) (hao : mK M ao = 21) (hao1 : mN M ao = 1) (han : ∀ k, LV τ k → ao ≠ α k) (hwU : (cd2 (rng x 3 && rng z 24) (inB y (lN 0) (lN 1) && decide (lN 0 ≤ a ∧ a ≤ lN 10000000000))) = 0 → WF τ) : CH l yL_yearTax cL_yearTax 8 (some .int) [(0, 13, 16, 13), (0, 13, 20, 15)] 8 2 12 127 G M [.ref (α 0), .int x, .int y, .int z, .long a, .ref ao] (fun v M' => LPo τ G α M ao (cd2 (rng x 3 && rng z 24) (inB y (lN 0) (lN 1) && decide (lN 0 ≤ a ∧ a ≤ lN 10000000000))) τ (some (yearL τ (48 * x.toNatClampNeg + 24 * y.toNatClampNeg) z.toNatClampNeg a)) v M') := by
  refine CH.of hfl rfl (Nat.le_of_ble_eq_true rfl) ?_
  intro pp ee ss mm ar bw mt cd C hgX hr htab
  refine V.eLo (lo' := [(0, .ref (α 0)), (1, .int x), (2, .int y), (3, .int z), (4, .long a), (6, .ref ao)]) rfl ?_
  refine r_aload C 5 dL_yearTax_0 rfl ?_
  refine r_iconst C (v := nI 0) dL_yearTax_2 (by decide) ?_
  refine r_aload_n C 0 dL_yearTax_3 rfl rfl ?_
  refine r_iload_n C 1 dL_yearTax_4 rfl rfl ?_
  refine r_iload_n C 2 dL_yearTax_5 rfl rfl ?_
  refine r_iload_n C 3 dL_yearTax_6 rfl rfl ?_
  refine r_lload C 4 dL_yearTax_7 rfl ?_
  refine r_xVc C hgX (ci := 13) ml_L_76 im_X11_yearTax se_X11_yearTax rfl rfl (hws.2.1.k 0 14 rfl) (c_X11_yearTax l hfl G M τ hw α hws hwt hwb had x y z a) rfl (Nat.le_of_ble_eq_true rfl) ⟨Nat.le_of_ble_eq_true rfl, Nat.le_of_ble_eq_true rfl⟩ ⟨Nat.le_of_ble_eq_true rfl, Nat.le_of_ble_eq_true rfl⟩ dL_yearTax_9 rfl (fun E_ M_ h_ => ?_) ?_
  · obtain ⟨hC0, rfl, rfl⟩ := h_
    rcases cd2_c (rng x 3 && rng z 24) (inB y (lN 0) (lN 1) && decide (lN 0 ≤ a ∧ a ≤ lN 10000000000)) with hC | hC | hC
    · exact absurd hC hC0
    · refine ⟨16, ?_, fun q_ => ?_⟩
      · rw [hC]; exact ⟨[], ⟨0, 13, 16, 13⟩, [⟨0, 13, 20, 15⟩], htab, (fun z_ hz_ => absurd hz_ (List.not_mem_nil)), by decide, by decide, cl_L_13, hgX.2.2.2.2.2.1.1, rfl⟩
      · skip
        refine r_astore C (lo' := [(7, .ref q_), (0, .ref (α 0)), (1, .int x), (2, .int y), (3, .int z), (4, .long a), (6, .ref ao)]) dL_yearTax_16 (by decide) rfl ?_
        refine r_iconst C (v := nI 1) dL_yearTax_18 (by decide) ?_
        refine V.xret ?_
        exact r_iret C hr (⟨by rw [hC], fun h_ => absurd h_ hC0, α, by rw [if_neg hC0]; exact WD.cl hw ⟨hws, hwt, hwb⟩, rfl, LQ.cl, by rw [if_neg hC0]; exact fun _ _ hz_ => hz_⟩) (by first | exact Nat.zero_le _ | decide) (by first | exact Nat.zero_le _ | decide) dL_yearTax_19
    · refine ⟨20, ?_, fun q_ => ?_⟩
      · rw [hC]; exact ⟨[⟨0, 13, 16, 13⟩], ⟨0, 13, 20, 15⟩, [], htab, (fun z_ hz_ => by rcases List.mem_cons.mp hz_ with rfl | hz_; exact ⟨by decide, _, cl_L_13, hgX.2.2.2.2.2.1.2.2.2.2.1 ("java/lang/IllegalArgumentException", "java/lang/IndexOutOfBoundsException") (by decide)⟩; exact absurd hz_ (List.not_mem_nil)), by decide, by decide, cl_L_15, hgX.2.2.2.2.2.1.2.1, rfl⟩
      · skip
        refine r_astore C (lo' := [(7, .ref q_), (0, .ref (α 0)), (1, .int x), (2, .int y), (3, .int z), (4, .long a), (6, .ref ao)]) dL_yearTax_20 (by decide) rfl ?_
        refine r_iconst C (v := nI 2) dL_yearTax_22 (by decide) ?_
        refine V.xret ?_
        exact r_iret C hr (⟨by rw [hC], fun h_ => absurd h_ hC0, α, by rw [if_neg hC0]; exact WD.cl hw ⟨hws, hwt, hwb⟩, rfl, LQ.cl, by rw [if_neg hC0]; exact fun _ _ hz_ => hz_⟩) (by first | exact Nat.zero_le _ | decide) (by first | exact Nat.zero_le _ | decide) dL_yearTax_23
  rintro _ My ⟨hC, rfl, be, hWD, hb0, hCF, hXO⟩
  have hoy := hCF ao (by rw [hao]; decide) (by rw [hao]; decide) han
  have hk21 : mK My ao = 21 := hoy.1.trans hao
  have hn21 : mN My ao = 1 := hoy.2.1.trans hao1
  refine V.eSt (st' := [.long (yearL τ (48 * x.toNatClampNeg + 24 * y.toNatClampNeg) z.toNatClampNeg a), .int (nI 0), .ref ao]) rfl ?_
  refine r_lastoreN C hk21 hn21 (by omega) (by omega) dL_yearTax_12 ?_
  refine r_goto C (t := 24) dL_yearTax_13 (by decide) ?_
  refine r_iconst C (v := nI 0) dL_yearTax_24 (by decide) ?_
  refine V.xret ?_
  exact r_iret C hr (⟨by rw [hC], fun _ x_ h_ => (by cases h_; exact wL_i), be, by rw [if_pos hC]; exact hWD.fr (hwU hC) ao_fr (fun k_ hk_ e_ => hXO ao (by rw [hao]; decide) han k_ hk_ e_.symm), hb0, LQ.of hCF, by rw [if_pos hC]; exact hXO⟩) (by first | exact Nat.zero_le _ | decide) (by first | exact Nat.zero_le _ | decide) dL_yearTax_25
set_option maxHeartbeats 1000000 in
set_option maxRecDepth 100000 in
theorem c_L_slip (l : Launch) (hfl : l.flags = flags0) (G : gW) (M : Mem) (τ : Mu) (hw : WF τ) (α : Nat → Nat) (hws : WS τ G α M) (hwt : WT τ α M) (hwb : WB τ α M) (had : ∀ p, p < 6 → AD τ p) (x y z : Int32) (ao : Nat) (hao : mK M ao = 21) (hao1 : mN M ao = 1) (han : ∀ k, LV τ k → ao ≠ α k) (hwU : (cd2 (rng x 6 && rng y 24) (inB z (lN 0) (lN 7))) = 0 → WF τ) : CH l yL_slip cL_slip 6 (some .int) [(0, 11, 14, 13), (0, 11, 18, 15)] 8 2 12 211 G M [.ref (α 0), .int x, .int y, .int z, .ref ao] (fun v M' => LPo τ G α M ao (cd2 (rng x 6 && rng y 24) (inB z (lN 0) (lN 7))) τ (some (slL τ x.toNatClampNeg y.toNatClampNeg z.toNatClampNeg)) v M') := by
  refine CH.of hfl rfl (Nat.le_of_ble_eq_true rfl) ?_
  intro pp ee ss mm ar bw mt cd C hgX hr htab
  refine V.eLo (lo' := [(0, .ref (α 0)), (1, .int x), (2, .int y), (3, .int z), (4, .ref ao)]) rfl ?_
  refine r_aload C 4 dL_slip_0 rfl ?_
  refine r_iconst C (v := nI 0) dL_slip_2 (by decide) ?_
  refine r_aload_n C 0 dL_slip_3 rfl rfl ?_
  refine r_iload_n C 1 dL_slip_4 rfl rfl ?_
  refine r_iload_n C 2 dL_slip_5 rfl rfl ?_
  refine r_iload_n C 3 dL_slip_6 rfl rfl ?_
  refine r_xVc C hgX (ci := 13) ml_L_80 im_X11_slip se_X11_slip rfl rfl (hws.2.1.k 0 14 rfl) (c_X11_slip l hfl G M τ hw α hws hwt hwb had x y z) rfl (Nat.le_of_ble_eq_true rfl) ⟨Nat.le_of_ble_eq_true rfl, Nat.le_of_ble_eq_true rfl⟩ ⟨Nat.le_of_ble_eq_true rfl, Nat.le_of_ble_eq_true rfl⟩ dL_slip_7 rfl (fun E_ M_ h_ => ?_) ?_
  · obtain ⟨hC0, rfl, rfl⟩ := h_
    rcases cd2_c (rng x 6 && rng y 24) (inB z (lN 0) (lN 7)) with hC | hC | hC
    · exact absurd hC hC0
    · refine ⟨14, ?_, fun q_ => ?_⟩
      · rw [hC]; exact ⟨[], ⟨0, 11, 14, 13⟩, [⟨0, 11, 18, 15⟩], htab, (fun z_ hz_ => absurd hz_ (List.not_mem_nil)), by decide, by decide, cl_L_13, hgX.2.2.2.2.2.1.1, rfl⟩
      · skip
        refine r_astore C (lo' := [(5, .ref q_), (0, .ref (α 0)), (1, .int x), (2, .int y), (3, .int z), (4, .ref ao)]) dL_slip_14 (by decide) rfl ?_
        refine r_iconst C (v := nI 1) dL_slip_16 (by decide) ?_
        refine V.xret ?_
        exact r_iret C hr (⟨by rw [hC], fun h_ => absurd h_ hC0, α, by rw [if_neg hC0]; exact WD.cl hw ⟨hws, hwt, hwb⟩, rfl, LQ.cl, by rw [if_neg hC0]; exact fun _ _ hz_ => hz_⟩) (by first | exact Nat.zero_le _ | decide) (by first | exact Nat.zero_le _ | decide) dL_slip_17
    · refine ⟨18, ?_, fun q_ => ?_⟩
      · rw [hC]; exact ⟨[⟨0, 11, 14, 13⟩], ⟨0, 11, 18, 15⟩, [], htab, (fun z_ hz_ => by rcases List.mem_cons.mp hz_ with rfl | hz_; exact ⟨by decide, _, cl_L_13, hgX.2.2.2.2.2.1.2.2.2.2.1 ("java/lang/IllegalArgumentException", "java/lang/IndexOutOfBoundsException") (by decide)⟩; exact absurd hz_ (List.not_mem_nil)), by decide, by decide, cl_L_15, hgX.2.2.2.2.2.1.2.1, rfl⟩
      · skip
        refine r_astore C (lo' := [(5, .ref q_), (0, .ref (α 0)), (1, .int x), (2, .int y), (3, .int z), (4, .ref ao)]) dL_slip_18 (by decide) rfl ?_
        refine r_iconst C (v := nI 2) dL_slip_20 (by decide) ?_
        refine V.xret ?_
        exact r_iret C hr (⟨by rw [hC], fun h_ => absurd h_ hC0, α, by rw [if_neg hC0]; exact WD.cl hw ⟨hws, hwt, hwb⟩, rfl, LQ.cl, by rw [if_neg hC0]; exact fun _ _ hz_ => hz_⟩) (by first | exact Nat.zero_le _ | decide) (by first | exact Nat.zero_le _ | decide) dL_slip_21
  rintro _ My ⟨hC, rfl, be, hWD, hb0, hCF, hXO⟩
  have hoy := hCF ao (by rw [hao]; decide) (by rw [hao]; decide) han
  have hk21 : mK My ao = 21 := hoy.1.trans hao
  have hn21 : mN My ao = 1 := hoy.2.1.trans hao1
  refine V.eSt (st' := [.long (slL τ x.toNatClampNeg y.toNatClampNeg z.toNatClampNeg), .int (nI 0), .ref ao]) rfl ?_
  refine r_lastoreN C hk21 hn21 (by omega) (by omega) dL_slip_10 ?_
  refine r_goto C (t := 22) dL_slip_11 (by decide) ?_
  refine r_iconst C (v := nI 0) dL_slip_22 (by decide) ?_
  refine V.xret ?_
  exact r_iret C hr (⟨by rw [hC], fun _ x_ h_ => (by cases h_; exact wL_i), be, by rw [if_pos hC]; exact hWD.fr (hwU hC) ao_fr (fun k_ hk_ e_ => hXO ao (by rw [hao]; decide) han k_ hk_ e_.symm), hb0, LQ.of hCF, by rw [if_pos hC]; exact hXO⟩) (by first | exact Nat.zero_le _ | decide) (by first | exact Nat.zero_le _ | decide) dL_slip_23
set_option maxHeartbeats 1000000 in
set_option maxRecDepth 100000 in
theorem c_L_slipIn (l : Launch) (hfl : l.flags = flags0) (G : gW) (M : Mem) (τ : Mu) (hw : WF τ) (α : Nat → Nat) (hws : WS τ G α M) (hwt : WT τ α M) (hwb : WB τ α M) (had : ∀ p, p < 6 → AD τ p) (x y z w : Int32) (ao : Nat) (hao : mK M ao = 21) (hao1 : mN M ao = 1) (han : ∀ k, LV τ k → ao ≠ α k) (hwU : (cd2 (rng x 6 && rng y 24 && rng z 3) (decide (w = 0) || decide (w = nI 1) || decide (w = nI 3))) = 0 → WF τ) : CH l yL_slipIn cL_slipIn 7 (some .int) [(0, 13, 16, 13), (0, 13, 20, 15)] 8 2 12 212 G M [.ref (α 0), .int x, .int y, .int z, .int w, .ref ao] (fun v M' => LPo τ G α M ao (cd2 (rng x 6 && rng y 24 && rng z 3) (decide (w = 0) || decide (w = nI 1) || decide (w = nI 3))) τ (some (inI τ x.toNatClampNeg y.toNatClampNeg z.toNatClampNeg w)) v M') := by
  refine CH.of hfl rfl (Nat.le_of_ble_eq_true rfl) ?_
  intro pp ee ss mm ar bw mt cd C hgX hr htab
  refine V.eLo (lo' := [(0, .ref (α 0)), (1, .int x), (2, .int y), (3, .int z), (4, .int w), (5, .ref ao)]) rfl ?_
  refine r_aload C 5 dL_slipIn_0 rfl ?_
  refine r_iconst C (v := nI 0) dL_slipIn_2 (by decide) ?_
  refine r_aload_n C 0 dL_slipIn_3 rfl rfl ?_
  refine r_iload_n C 1 dL_slipIn_4 rfl rfl ?_
  refine r_iload_n C 2 dL_slipIn_5 rfl rfl ?_
  refine r_iload_n C 3 dL_slipIn_6 rfl rfl ?_
  refine r_iload C 4 dL_slipIn_7 rfl ?_
  refine r_xVc C hgX (ci := 13) ml_L_84 im_X11_slipIn se_X11_slipIn rfl rfl (hws.2.1.k 0 14 rfl) (c_X11_slipIn l hfl G M τ hw α hws hwt hwb had x y z w) rfl (Nat.le_of_ble_eq_true rfl) ⟨Nat.le_of_ble_eq_true rfl, Nat.le_of_ble_eq_true rfl⟩ ⟨Nat.le_of_ble_eq_true rfl, Nat.le_of_ble_eq_true rfl⟩ dL_slipIn_9 rfl (fun E_ M_ h_ => ?_) ?_
  · obtain ⟨hC0, rfl, rfl⟩ := h_
    rcases cd2_c (rng x 6 && rng y 24 && rng z 3) (decide (w = 0) || decide (w = nI 1) || decide (w = nI 3)) with hC | hC | hC
    · exact absurd hC hC0
    · refine ⟨16, ?_, fun q_ => ?_⟩
      · rw [hC]; exact ⟨[], ⟨0, 13, 16, 13⟩, [⟨0, 13, 20, 15⟩], htab, (fun z_ hz_ => absurd hz_ (List.not_mem_nil)), by decide, by decide, cl_L_13, hgX.2.2.2.2.2.1.1, rfl⟩
      · skip
        refine r_astore C (lo' := [(6, .ref q_), (0, .ref (α 0)), (1, .int x), (2, .int y), (3, .int z), (4, .int w), (5, .ref ao)]) dL_slipIn_16 (by decide) rfl ?_
        refine r_iconst C (v := nI 1) dL_slipIn_18 (by decide) ?_
        refine V.xret ?_
        exact r_iret C hr (⟨by rw [hC], fun h_ => absurd h_ hC0, α, by rw [if_neg hC0]; exact WD.cl hw ⟨hws, hwt, hwb⟩, rfl, LQ.cl, by rw [if_neg hC0]; exact fun _ _ hz_ => hz_⟩) (by first | exact Nat.zero_le _ | decide) (by first | exact Nat.zero_le _ | decide) dL_slipIn_19
    · refine ⟨20, ?_, fun q_ => ?_⟩
      · rw [hC]; exact ⟨[⟨0, 13, 16, 13⟩], ⟨0, 13, 20, 15⟩, [], htab, (fun z_ hz_ => by rcases List.mem_cons.mp hz_ with rfl | hz_; exact ⟨by decide, _, cl_L_13, hgX.2.2.2.2.2.1.2.2.2.2.1 ("java/lang/IllegalArgumentException", "java/lang/IndexOutOfBoundsException") (by decide)⟩; exact absurd hz_ (List.not_mem_nil)), by decide, by decide, cl_L_15, hgX.2.2.2.2.2.1.2.1, rfl⟩
      · skip
        refine r_astore C (lo' := [(6, .ref q_), (0, .ref (α 0)), (1, .int x), (2, .int y), (3, .int z), (4, .int w), (5, .ref ao)]) dL_slipIn_20 (by decide) rfl ?_
        refine r_iconst C (v := nI 2) dL_slipIn_22 (by decide) ?_
        refine V.xret ?_
        exact r_iret C hr (⟨by rw [hC], fun h_ => absurd h_ hC0, α, by rw [if_neg hC0]; exact WD.cl hw ⟨hws, hwt, hwb⟩, rfl, LQ.cl, by rw [if_neg hC0]; exact fun _ _ hz_ => hz_⟩) (by first | exact Nat.zero_le _ | decide) (by first | exact Nat.zero_le _ | decide) dL_slipIn_23
  rintro _ My ⟨hC, rfl, be, hWD, hb0, hCF, hXO⟩
  have hoy := hCF ao (by rw [hao]; decide) (by rw [hao]; decide) han
  have hk21 : mK My ao = 21 := hoy.1.trans hao
  have hn21 : mN My ao = 1 := hoy.2.1.trans hao1
  refine V.eSt (st' := [.long (inI τ x.toNatClampNeg y.toNatClampNeg z.toNatClampNeg w), .int (nI 0), .ref ao]) rfl ?_
  refine r_lastoreN C hk21 hn21 (by omega) (by omega) dL_slipIn_12 ?_
  refine r_goto C (t := 24) dL_slipIn_13 (by decide) ?_
  refine r_iconst C (v := nI 0) dL_slipIn_24 (by decide) ?_
  refine V.xret ?_
  exact r_iret C hr (⟨by rw [hC], fun _ x_ h_ => (by cases h_; exact wL_i), be, by rw [if_pos hC]; exact hWD.fr (hwU hC) ao_fr (fun k_ hk_ e_ => hXO ao (by rw [hao]; decide) han k_ hk_ e_.symm), hb0, LQ.of hCF, by rw [if_pos hC]; exact hXO⟩) (by first | exact Nat.zero_le _ | decide) (by first | exact Nat.zero_le _ | decide) dL_slipIn_25
set_option maxHeartbeats 1000000 in
set_option maxRecDepth 100000 in
theorem c_L_elementOf (l : Launch) (hfl : l.flags = flags0) (G : gW) (M : Mem) (τ : Mu) (hw : WF τ) (α : Nat → Nat) (hws : WS τ G α M) (hwt : WT τ α M) (hwb : WB τ α M) (had : ∀ p, p < 6 → AD τ p) (x y z : Int32) (ao : Nat) (hao : mK M ao = 21) (hao1 : mN M ao = 1) (han : ∀ k, LV τ k → ao ≠ α k) (hwU : (cd1 (rng x (un τ 26 26) && rng y 6 && rng z 24)) = 0 → WF τ) : CH l yL_elementOf cL_elementOf 6 (some .int) [(0, 11, 14, 13)] 8 1 6 211 G M [.ref (α 0), .int x, .int y, .int z, .ref ao] (fun v M' => LPo τ G α M ao (cd1 (rng x (un τ 26 26) && rng y 6 && rng z 24)) τ (some (elL τ y.toNatClampNeg z.toNatClampNeg x.toNatClampNeg)) v M') := by
  refine CH.of hfl rfl (Nat.le_of_ble_eq_true rfl) ?_
  intro pp ee ss mm ar bw mt cd C hgX hr htab
  refine V.eLo (lo' := [(0, .ref (α 0)), (1, .int x), (2, .int y), (3, .int z), (4, .ref ao)]) rfl ?_
  refine r_aload C 4 dL_elementOf_0 rfl ?_
  refine r_iconst C (v := nI 0) dL_elementOf_2 (by decide) ?_
  refine r_aload_n C 0 dL_elementOf_3 rfl rfl ?_
  refine r_iload_n C 1 dL_elementOf_4 rfl rfl ?_
  refine r_iload_n C 2 dL_elementOf_5 rfl rfl ?_
  refine r_iload_n C 3 dL_elementOf_6 rfl rfl ?_
  refine r_xVc C hgX (ci := 13) ml_L_88 im_X11_elementOf se_X11_elementOf rfl rfl (hws.2.1.k 0 14 rfl) (c_X11_elementOf l hfl G M τ hw α hws hwt hwb had x y z) rfl (Nat.le_of_ble_eq_true rfl) ⟨Nat.le_of_ble_eq_true rfl, Nat.le_of_ble_eq_true rfl⟩ ⟨Nat.le_of_ble_eq_true rfl, Nat.le_of_ble_eq_true rfl⟩ dL_elementOf_7 rfl (fun E_ M_ h_ => ?_) ?_
  · obtain ⟨hC0, rfl, rfl⟩ := h_
    rcases cd1_c (rng x (un τ 26 26) && rng y 6 && rng z 24) with hC | hC
    · exact absurd hC hC0
    · refine ⟨14, ?_, fun q_ => ?_⟩
      · rw [hC]; exact ⟨[], ⟨0, 11, 14, 13⟩, [], htab, (fun z_ hz_ => absurd hz_ (List.not_mem_nil)), by decide, by decide, cl_L_13, hgX.2.2.2.2.2.1.1, rfl⟩
      · skip
        refine r_astore C (lo' := [(5, .ref q_), (0, .ref (α 0)), (1, .int x), (2, .int y), (3, .int z), (4, .ref ao)]) dL_elementOf_14 (by decide) rfl ?_
        refine r_iconst C (v := nI 1) dL_elementOf_16 (by decide) ?_
        refine V.xret ?_
        exact r_iret C hr (⟨by rw [hC], fun h_ => absurd h_ hC0, α, by rw [if_neg hC0]; exact WD.cl hw ⟨hws, hwt, hwb⟩, rfl, LQ.cl, by rw [if_neg hC0]; exact fun _ _ hz_ => hz_⟩) (by first | exact Nat.zero_le _ | decide) (by first | exact Nat.zero_le _ | decide) dL_elementOf_17
  rintro _ My ⟨hC, rfl, be, hWD, hb0, hCF, hXO⟩
  have hoy := hCF ao (by rw [hao]; decide) (by rw [hao]; decide) han
  have hk21 : mK My ao = 21 := hoy.1.trans hao
  have hn21 : mN My ao = 1 := hoy.2.1.trans hao1
  refine V.eSt (st' := [.long (elL τ y.toNatClampNeg z.toNatClampNeg x.toNatClampNeg), .int (nI 0), .ref ao]) rfl ?_
  refine r_lastoreN C hk21 hn21 (by omega) (by omega) dL_elementOf_10 ?_
  refine r_goto C (t := 18) dL_elementOf_11 (by decide) ?_
  refine r_iconst C (v := nI 0) dL_elementOf_18 (by decide) ?_
  refine V.xret ?_
  exact r_iret C hr (⟨by rw [hC], fun _ x_ h_ => (by cases h_; exact wL_i), be, by rw [if_pos hC]; exact hWD.fr (hwU hC) ao_fr (fun k_ hk_ e_ => hXO ao (by rw [hao]; decide) han k_ hk_ e_.symm), hb0, LQ.of hCF, by rw [if_pos hC]; exact hXO⟩) (by first | exact Nat.zero_le _ | decide) (by first | exact Nat.zero_le _ | decide) dL_elementOf_19
set_option maxHeartbeats 1000000 in
set_option maxRecDepth 100000 in
theorem c_L_pensionOf (l : Launch) (hfl : l.flags = flags0) (G : gW) (M : Mem) (τ : Mu) (hw : WF τ) (α : Nat → Nat) (hws : WS τ G α M) (hwt : WT τ α M) (hwb : WB τ α M) (had : ∀ p, p < 6 → AD τ p) (x y : Int32) (ao : Nat) (hao : mK M ao = 21) (hao1 : mN M ao = 1) (han : ∀ k, LV τ k → ao ≠ α k) (hwU : (cd1 (rng x 6 && rng y 24)) = 0 → WF τ) : CH l yL_pensionOf cL_pensionOf 5 (some .int) [(0, 9, 12, 13)] 8 1 6 210 G M [.ref (α 0), .int x, .int y, .ref ao] (fun v M' => LPo τ G α M ao (cd1 (rng x 6 && rng y 24)) τ (some (pfL τ x.toNatClampNeg y.toNatClampNeg)) v M') := by
  refine CH.of hfl rfl (Nat.le_of_ble_eq_true rfl) ?_
  intro pp ee ss mm ar bw mt cd C hgX hr htab
  refine V.eLo (lo' := [(0, .ref (α 0)), (1, .int x), (2, .int y), (3, .ref ao)]) rfl ?_
  refine r_aload_n C 3 dL_pensionOf_0 rfl rfl ?_
  refine r_iconst C (v := nI 0) dL_pensionOf_1 (by decide) ?_
  refine r_aload_n C 0 dL_pensionOf_2 rfl rfl ?_
  refine r_iload_n C 1 dL_pensionOf_3 rfl rfl ?_
  refine r_iload_n C 2 dL_pensionOf_4 rfl rfl ?_
  refine r_xVc C hgX (ci := 13) ml_L_91 im_X11_pensionOf se_X11_pensionOf rfl rfl (hws.2.1.k 0 14 rfl) (c_X11_pensionOf l hfl G M τ hw α hws hwt hwb had x y) rfl (Nat.le_of_ble_eq_true rfl) ⟨Nat.le_of_ble_eq_true rfl, Nat.le_of_ble_eq_true rfl⟩ ⟨Nat.le_of_ble_eq_true rfl, Nat.le_of_ble_eq_true rfl⟩ dL_pensionOf_5 rfl (fun E_ M_ h_ => ?_) ?_
  · obtain ⟨hC0, rfl, rfl⟩ := h_
    rcases cd1_c (rng x 6 && rng y 24) with hC | hC
    · exact absurd hC hC0
    · refine ⟨12, ?_, fun q_ => ?_⟩
      · rw [hC]; exact ⟨[], ⟨0, 9, 12, 13⟩, [], htab, (fun z_ hz_ => absurd hz_ (List.not_mem_nil)), by decide, by decide, cl_L_13, hgX.2.2.2.2.2.1.1, rfl⟩
      · skip
        refine r_astore C (lo' := [(4, .ref q_), (0, .ref (α 0)), (1, .int x), (2, .int y), (3, .ref ao)]) dL_pensionOf_12 (by decide) rfl ?_
        refine r_iconst C (v := nI 1) dL_pensionOf_14 (by decide) ?_
        refine V.xret ?_
        exact r_iret C hr (⟨by rw [hC], fun h_ => absurd h_ hC0, α, by rw [if_neg hC0]; exact WD.cl hw ⟨hws, hwt, hwb⟩, rfl, LQ.cl, by rw [if_neg hC0]; exact fun _ _ hz_ => hz_⟩) (by first | exact Nat.zero_le _ | decide) (by first | exact Nat.zero_le _ | decide) dL_pensionOf_15
  rintro _ My ⟨hC, rfl, be, hWD, hb0, hCF, hXO⟩
  have hoy := hCF ao (by rw [hao]; decide) (by rw [hao]; decide) han
  have hk21 : mK My ao = 21 := hoy.1.trans hao
  have hn21 : mN My ao = 1 := hoy.2.1.trans hao1
  refine V.eSt (st' := [.long (pfL τ x.toNatClampNeg y.toNatClampNeg), .int (nI 0), .ref ao]) rfl ?_
  refine r_lastoreN C hk21 hn21 (by omega) (by omega) dL_pensionOf_8 ?_
  refine r_goto C (t := 16) dL_pensionOf_9 (by decide) ?_
  refine r_iconst C (v := nI 0) dL_pensionOf_16 (by decide) ?_
  refine V.xret ?_
  exact r_iret C hr (⟨by rw [hC], fun _ x_ h_ => (by cases h_; exact wL_i), be, by rw [if_pos hC]; exact hWD.fr (hwU hC) ao_fr (fun k_ hk_ e_ => hXO ao (by rw [hao]; decide) han k_ hk_ e_.symm), hb0, LQ.of hCF, by rw [if_pos hC]; exact hXO⟩) (by first | exact Nat.zero_le _ | decide) (by first | exact Nat.zero_le _ | decide) dL_pensionOf_17
set_option maxHeartbeats 1000000 in
set_option maxRecDepth 100000 in
theorem c_L_grossFor (l : Launch) (hfl : l.flags = flags0) (G : gW) (M : Mem) (τ : Mu) (hw : WF τ) (α : Nat → Nat) (hws : WS τ G α M) (hwt : WT τ α M) (hwb : WB τ α M) (had : ∀ p, p < 6 → AD τ p) (x y z w : Int32) (hbo : BO τ) (ao : Nat) (hao : mK M ao = 21) (hao1 : mN M ao = 1) (han : ∀ k, LV τ k → ao ≠ α k) (hwU : (cd2 (rng x 6 && rng y 24 && rng z 3) (inB w (lN 1) (lN 1000000))) = 0 → WF τ) : CH l yL_grossFor cL_grossFor 7 (some .int) [(0, 14, 17, 13), (0, 14, 21, 15)] 8 2 12 219 G M [.ref (α 0), .int x, .int y, .int z, .int w, .ref ao] (fun v M' => LPo τ G α M ao (cd2 (rng x 6 && rng y 24 && rng z 3) (inB w (lN 1) (lN 1000000))) τ (some ((gfO τ (72 * x.toNatClampNeg + 3 * y.toNatClampNeg + z.toNatClampNeg) x.toNatClampNeg y.toNatClampNeg (ntL τ x.toNatClampNeg y.toNatClampNeg + lN w.toNatClampNeg)).toInt64)) v M') := by
  refine CH.of hfl rfl (Nat.le_of_ble_eq_true rfl) ?_
  intro pp ee ss mm ar bw mt cd C hgX hr htab
  refine V.eLo (lo' := [(0, .ref (α 0)), (1, .int x), (2, .int y), (3, .int z), (4, .int w), (5, .ref ao)]) rfl ?_
  refine r_aload C 5 dL_grossFor_0 rfl ?_
  refine r_iconst C (v := nI 0) dL_grossFor_2 (by decide) ?_
  refine r_aload_n C 0 dL_grossFor_3 rfl rfl ?_
  refine r_iload_n C 1 dL_grossFor_4 rfl rfl ?_
  refine r_iload_n C 2 dL_grossFor_5 rfl rfl ?_
  refine r_iload_n C 3 dL_grossFor_6 rfl rfl ?_
  refine r_iload C 4 dL_grossFor_7 rfl ?_
  refine r_xVc C hgX (ci := 13) ml_L_94 im_X11_grossFor se_X11_grossFor rfl rfl (hws.2.1.k 0 14 rfl) (c_X11_grossFor l hfl G M τ hw α hws hwt hwb had x y z w hbo) rfl (Nat.le_of_ble_eq_true rfl) ⟨Nat.le_of_ble_eq_true rfl, Nat.le_of_ble_eq_true rfl⟩ ⟨Nat.le_of_ble_eq_true rfl, Nat.le_of_ble_eq_true rfl⟩ dL_grossFor_9 rfl (fun E_ M_ h_ => ?_) ?_
  · obtain ⟨hC0, rfl, rfl⟩ := h_
    rcases cd2_c (rng x 6 && rng y 24 && rng z 3) (inB w (lN 1) (lN 1000000)) with hC | hC | hC
    · exact absurd hC hC0
    · refine ⟨17, ?_, fun q_ => ?_⟩
      · rw [hC]; exact ⟨[], ⟨0, 14, 17, 13⟩, [⟨0, 14, 21, 15⟩], htab, (fun z_ hz_ => absurd hz_ (List.not_mem_nil)), by decide, by decide, cl_L_13, hgX.2.2.2.2.2.1.1, rfl⟩
      · skip
        refine r_astore C (lo' := [(6, .ref q_), (0, .ref (α 0)), (1, .int x), (2, .int y), (3, .int z), (4, .int w), (5, .ref ao)]) dL_grossFor_17 (by decide) rfl ?_
        refine r_iconst C (v := nI 1) dL_grossFor_19 (by decide) ?_
        refine V.xret ?_
        exact r_iret C hr (⟨by rw [hC], fun h_ => absurd h_ hC0, α, by rw [if_neg hC0]; exact WD.cl hw ⟨hws, hwt, hwb⟩, rfl, LQ.cl, by rw [if_neg hC0]; exact fun _ _ hz_ => hz_⟩) (by first | exact Nat.zero_le _ | decide) (by first | exact Nat.zero_le _ | decide) dL_grossFor_20
    · refine ⟨21, ?_, fun q_ => ?_⟩
      · rw [hC]; exact ⟨[⟨0, 14, 17, 13⟩], ⟨0, 14, 21, 15⟩, [], htab, (fun z_ hz_ => by rcases List.mem_cons.mp hz_ with rfl | hz_; exact ⟨by decide, _, cl_L_13, hgX.2.2.2.2.2.1.2.2.2.2.1 ("java/lang/IllegalArgumentException", "java/lang/IndexOutOfBoundsException") (by decide)⟩; exact absurd hz_ (List.not_mem_nil)), by decide, by decide, cl_L_15, hgX.2.2.2.2.2.1.2.1, rfl⟩
      · skip
        refine r_astore C (lo' := [(6, .ref q_), (0, .ref (α 0)), (1, .int x), (2, .int y), (3, .int z), (4, .int w), (5, .ref ao)]) dL_grossFor_21 (by decide) rfl ?_
        refine r_iconst C (v := nI 2) dL_grossFor_23 (by decide) ?_
        refine V.xret ?_
        exact r_iret C hr (⟨by rw [hC], fun h_ => absurd h_ hC0, α, by rw [if_neg hC0]; exact WD.cl hw ⟨hws, hwt, hwb⟩, rfl, LQ.cl, by rw [if_neg hC0]; exact fun _ _ hz_ => hz_⟩) (by first | exact Nat.zero_le _ | decide) (by first | exact Nat.zero_le _ | decide) dL_grossFor_24
  rintro _ My ⟨hC, rfl, be, hWD, hb0, hCF, hXO⟩
  have hoy := hCF ao (by rw [hao]; decide) (by rw [hao]; decide) han
  have hk21 : mK My ao = 21 := hoy.1.trans hao
  have hn21 : mN My ao = 1 := hoy.2.1.trans hao1
  refine V.eSt (st' := [.int (gfO τ (72 * x.toNatClampNeg + 3 * y.toNatClampNeg + z.toNatClampNeg) x.toNatClampNeg y.toNatClampNeg (ntL τ x.toNatClampNeg y.toNatClampNeg + lN w.toNatClampNeg)), .int (nI 0), .ref ao]) rfl ?_
  refine r_i2l C dL_grossFor_12 ?_
  refine r_lastoreN C hk21 hn21 (by omega) (by omega) dL_grossFor_13 ?_
  refine r_goto C (t := 25) dL_grossFor_14 (by decide) ?_
  refine r_iconst C (v := nI 0) dL_grossFor_25 (by decide) ?_
  refine V.xret ?_
  exact r_iret C hr (⟨by rw [hC], fun _ x_ h_ => (by cases h_; exact wL_i), be, by rw [if_pos hC]; exact hWD.fr (hwU hC) ao_fr (fun k_ hk_ e_ => hXO ao (by rw [hao]; decide) han k_ hk_ e_.symm), hb0, LQ.of hCF, by rw [if_pos hC]; exact hXO⟩) (by first | exact Nat.zero_le _ | decide) (by first | exact Nat.zero_le _ | decide) dL_grossFor_26
set_option maxHeartbeats 1000000 in
set_option maxRecDepth 100000 in
theorem c_L_garnish (l : Launch) (hfl : l.flags = flags0) (G : gW) (M : Mem) (τ : Mu) (hw : WF τ) (α : Nat → Nat) (hws : WS τ G α M) (hwt : WT τ α M) (hwb : WB τ α M) (had : ∀ p, p < 6 → AD τ p) (x y z t n u : Int32) (ao : Nat) (hao : mK M ao = 21) (hao1 : mN M ao = 1) (han : ∀ k, LV τ k → ao ≠ α k) (hwU : (cd3 (rng x 6 && rng y 24) (inB z (lN 0) (lN 9) && inB t (lN 1) (lN 100000000) && inB n (lN 1) (lN 1000) && inB u (lN 0) (lN 100000000)) (decide (un τ 44 44 ≠ 6))) = 0 → WF (sI (sI (sI (sI (sI (sI (sI τ 38 (un τ 44 44) x) 39 (un τ 44 44) y) 40 (un τ 44 44) z) 41 (un τ 44 44) t) 42 (un τ 44 44) n) 43 (un τ 44 44) u) 44 44 (nI (un τ 44 44 + 1)))) : CH l yL_garnish cL_garnish 9 (some .int) [(0, 18, 21, 13), (0, 18, 25, 15), (0, 18, 29, 17)] 8 8 655 263 G M [.ref (α 0), .int x, .int y, .int z, .int t, .int n, .int u, .ref ao] (fun v M' => LPo τ G α M ao (cd3 (rng x 6 && rng y 24) (inB z (lN 0) (lN 9) && inB t (lN 1) (lN 100000000) && inB n (lN 1) (lN 1000) && inB u (lN 0) (lN 100000000)) (decide (un τ 44 44 ≠ 6))) (sI (sI (sI (sI (sI (sI (sI τ 38 (un τ 44 44) x) 39 (un τ 44 44) y) 40 (un τ 44 44) z) 41 (un τ 44 44) t) 42 (un τ 44 44) n) 43 (un τ 44 44) u) 44 44 (nI (un τ 44 44 + 1))) (some ((nI (un τ 44 44)).toInt64)) v M') := by
  refine CH.of hfl rfl (Nat.le_of_ble_eq_true rfl) ?_
  intro pp ee ss mm ar bw mt cd C hgX hr htab
  refine V.eLo (lo' := [(0, .ref (α 0)), (1, .int x), (2, .int y), (3, .int z), (4, .int t), (5, .int n), (6, .int u), (7, .ref ao)]) rfl ?_
  refine r_aload C 7 dL_garnish_0 rfl ?_
  refine r_iconst C (v := nI 0) dL_garnish_2 (by decide) ?_
  refine r_aload_n C 0 dL_garnish_3 rfl rfl ?_
  refine r_iload_n C 1 dL_garnish_4 rfl rfl ?_
  refine r_iload_n C 2 dL_garnish_5 rfl rfl ?_
  refine r_iload_n C 3 dL_garnish_6 rfl rfl ?_
  refine r_iload C 4 dL_garnish_7 rfl ?_
  refine r_iload C 5 dL_garnish_9 rfl ?_
  refine r_iload C 6 dL_garnish_11 rfl ?_
  refine r_xVc C hgX (ci := 13) ml_L_97 im_X11_garnish se_X11_garnish rfl rfl (hws.2.1.k 0 14 rfl) (c_X11_garnish l hfl G M τ hw α hws hwt hwb had x y z t n u) rfl (Nat.le_of_ble_eq_true rfl) ⟨Nat.le_of_ble_eq_true rfl, Nat.le_of_ble_eq_true rfl⟩ ⟨Nat.le_of_ble_eq_true rfl, Nat.le_of_ble_eq_true rfl⟩ dL_garnish_13 rfl (fun E_ M_ h_ => ?_) ?_
  · obtain ⟨hC0, rfl, rfl⟩ := h_
    rcases cd3_c (rng x 6 && rng y 24) (inB z (lN 0) (lN 9) && inB t (lN 1) (lN 100000000) && inB n (lN 1) (lN 1000) && inB u (lN 0) (lN 100000000)) (decide (un τ 44 44 ≠ 6)) with hC | hC | hC | hC
    · exact absurd hC hC0
    · refine ⟨21, ?_, fun q_ => ?_⟩
      · rw [hC]; exact ⟨[], ⟨0, 18, 21, 13⟩, [⟨0, 18, 25, 15⟩, ⟨0, 18, 29, 17⟩], htab, (fun z_ hz_ => absurd hz_ (List.not_mem_nil)), by decide, by decide, cl_L_13, hgX.2.2.2.2.2.1.1, rfl⟩
      · skip
        refine r_astore C (lo' := [(8, .ref q_), (0, .ref (α 0)), (1, .int x), (2, .int y), (3, .int z), (4, .int t), (5, .int n), (6, .int u), (7, .ref ao)]) dL_garnish_21 (by decide) rfl ?_
        refine r_iconst C (v := nI 1) dL_garnish_23 (by decide) ?_
        refine V.xret ?_
        exact r_iret C hr (⟨by rw [hC], fun h_ => absurd h_ hC0, α, by rw [if_neg hC0]; exact WD.cl hw ⟨hws, hwt, hwb⟩, rfl, LQ.cl, by rw [if_neg hC0]; exact fun _ _ hz_ => hz_⟩) (by first | exact Nat.zero_le _ | decide) (by first | exact Nat.zero_le _ | decide) dL_garnish_24
    · refine ⟨25, ?_, fun q_ => ?_⟩
      · rw [hC]; exact ⟨[⟨0, 18, 21, 13⟩], ⟨0, 18, 25, 15⟩, [⟨0, 18, 29, 17⟩], htab, (fun z_ hz_ => by rcases List.mem_cons.mp hz_ with rfl | hz_; exact ⟨by decide, _, cl_L_13, hgX.2.2.2.2.2.1.2.2.2.2.1 ("java/lang/IllegalArgumentException", "java/lang/IndexOutOfBoundsException") (by decide)⟩; exact absurd hz_ (List.not_mem_nil)), by decide, by decide, cl_L_15, hgX.2.2.2.2.2.1.2.1, rfl⟩
      · skip
        refine r_astore C (lo' := [(8, .ref q_), (0, .ref (α 0)), (1, .int x), (2, .int y), (3, .int z), (4, .int t), (5, .int n), (6, .int u), (7, .ref ao)]) dL_garnish_25 (by decide) rfl ?_
        refine r_iconst C (v := nI 2) dL_garnish_27 (by decide) ?_
        refine V.xret ?_
        exact r_iret C hr (⟨by rw [hC], fun h_ => absurd h_ hC0, α, by rw [if_neg hC0]; exact WD.cl hw ⟨hws, hwt, hwb⟩, rfl, LQ.cl, by rw [if_neg hC0]; exact fun _ _ hz_ => hz_⟩) (by first | exact Nat.zero_le _ | decide) (by first | exact Nat.zero_le _ | decide) dL_garnish_28
    · refine ⟨29, ?_, fun q_ => ?_⟩
      · rw [hC]; exact ⟨[⟨0, 18, 21, 13⟩, ⟨0, 18, 25, 15⟩], ⟨0, 18, 29, 17⟩, [], htab, (fun z_ hz_ => by rcases List.mem_cons.mp hz_ with rfl | hz_; exact ⟨by decide, _, cl_L_13, hgX.2.2.2.2.2.1.2.2.2.2.1 ("java/lang/IllegalStateException", "java/lang/IndexOutOfBoundsException") (by decide)⟩; rcases List.mem_cons.mp hz_ with rfl | hz_; exact ⟨by decide, _, cl_L_15, hgX.2.2.2.2.2.1.2.2.2.2.1 ("java/lang/IllegalStateException", "java/lang/IllegalArgumentException") (by decide)⟩; exact absurd hz_ (List.not_mem_nil)), by decide, by decide, cl_L_17, hgX.2.2.2.2.2.1.2.2.1, rfl⟩
      · skip
        refine r_astore C (lo' := [(8, .ref q_), (0, .ref (α 0)), (1, .int x), (2, .int y), (3, .int z), (4, .int t), (5, .int n), (6, .int u), (7, .ref ao)]) dL_garnish_29 (by decide) rfl ?_
        refine r_iconst C (v := nI 3) dL_garnish_31 (by decide) ?_
        refine V.xret ?_
        exact r_iret C hr (⟨by rw [hC], fun h_ => absurd h_ hC0, α, by rw [if_neg hC0]; exact WD.cl hw ⟨hws, hwt, hwb⟩, rfl, LQ.cl, by rw [if_neg hC0]; exact fun _ _ hz_ => hz_⟩) (by first | exact Nat.zero_le _ | decide) (by first | exact Nat.zero_le _ | decide) dL_garnish_32
  rintro _ My ⟨hC, rfl, be, hWD, hb0, hCF, hXO⟩
  have hoy := hCF ao (by rw [hao]; decide) (by rw [hao]; decide) han
  have hk21 : mK My ao = 21 := hoy.1.trans hao
  have hn21 : mN My ao = 1 := hoy.2.1.trans hao1
  refine V.eSt (st' := [.int (nI (un τ 44 44)), .int (nI 0), .ref ao]) rfl ?_
  refine r_i2l C dL_garnish_16 ?_
  refine r_lastoreN C hk21 hn21 (by omega) (by omega) dL_garnish_17 ?_
  refine r_goto C (t := 33) dL_garnish_18 (by decide) ?_
  refine r_iconst C (v := nI 0) dL_garnish_33 (by decide) ?_
  refine V.xret ?_
  exact r_iret C hr (⟨by rw [hC], fun _ x_ h_ => (by cases h_; exact wL_i), be, by rw [if_pos hC]; exact hWD.fr (hwU hC) ao_fr (fun k_ hk_ e_ => hXO ao (by rw [hao]; decide) han k_ hk_ e_.symm), hb0, LQ.of hCF, by rw [if_pos hC]; exact hXO⟩) (by first | exact Nat.zero_le _ | decide) (by first | exact Nat.zero_le _ | decide) dL_garnish_34
set_option maxHeartbeats 1000000 in
set_option maxRecDepth 100000 in
theorem c_L_takenBy (l : Launch) (hfl : l.flags = flags0) (G : gW) (M : Mem) (τ : Mu) (hw : WF τ) (α : Nat → Nat) (hws : WS τ G α M) (hwt : WT τ α M) (hwb : WB τ α M) (had : ∀ p, p < 6 → AD τ p) (x y : Int32) (ao : Nat) (hao : mK M ao = 21) (hao1 : mN M ao = 1) (han : ∀ k, LV τ k → ao ≠ α k) (hwU : (cd1 (rng x (un τ 44 44) && rng y 24)) = 0 → WF τ) : CH l yL_takenBy cL_takenBy 5 (some .int) [(0, 9, 12, 13)] 8 1 6 211 G M [.ref (α 0), .int x, .int y, .ref ao] (fun v M' => LPo τ G α M ao (cd1 (rng x (un τ 44 44) && rng y 24)) τ (some (hadL τ (un τ 38 x.toNatClampNeg) (y.toNatClampNeg + 1) x.toNatClampNeg)) v M') := by
  refine CH.of hfl rfl (Nat.le_of_ble_eq_true rfl) ?_
  intro pp ee ss mm ar bw mt cd C hgX hr htab
  refine V.eLo (lo' := [(0, .ref (α 0)), (1, .int x), (2, .int y), (3, .ref ao)]) rfl ?_
  refine r_aload_n C 3 dL_takenBy_0 rfl rfl ?_
  refine r_iconst C (v := nI 0) dL_takenBy_1 (by decide) ?_
  refine r_aload_n C 0 dL_takenBy_2 rfl rfl ?_
  refine r_iload_n C 1 dL_takenBy_3 rfl rfl ?_
  refine r_iload_n C 2 dL_takenBy_4 rfl rfl ?_
  refine r_xVc C hgX (ci := 13) ml_L_101 im_X11_takenBy se_X11_takenBy rfl rfl (hws.2.1.k 0 14 rfl) (c_X11_takenBy l hfl G M τ hw α hws hwt hwb had x y) rfl (Nat.le_of_ble_eq_true rfl) ⟨Nat.le_of_ble_eq_true rfl, Nat.le_of_ble_eq_true rfl⟩ ⟨Nat.le_of_ble_eq_true rfl, Nat.le_of_ble_eq_true rfl⟩ dL_takenBy_5 rfl (fun E_ M_ h_ => ?_) ?_
  · obtain ⟨hC0, rfl, rfl⟩ := h_
    rcases cd1_c (rng x (un τ 44 44) && rng y 24) with hC | hC
    · exact absurd hC hC0
    · refine ⟨12, ?_, fun q_ => ?_⟩
      · rw [hC]; exact ⟨[], ⟨0, 9, 12, 13⟩, [], htab, (fun z_ hz_ => absurd hz_ (List.not_mem_nil)), by decide, by decide, cl_L_13, hgX.2.2.2.2.2.1.1, rfl⟩
      · skip
        refine r_astore C (lo' := [(4, .ref q_), (0, .ref (α 0)), (1, .int x), (2, .int y), (3, .ref ao)]) dL_takenBy_12 (by decide) rfl ?_
        refine r_iconst C (v := nI 1) dL_takenBy_14 (by decide) ?_
        refine V.xret ?_
        exact r_iret C hr (⟨by rw [hC], fun h_ => absurd h_ hC0, α, by rw [if_neg hC0]; exact WD.cl hw ⟨hws, hwt, hwb⟩, rfl, LQ.cl, by rw [if_neg hC0]; exact fun _ _ hz_ => hz_⟩) (by first | exact Nat.zero_le _ | decide) (by first | exact Nat.zero_le _ | decide) dL_takenBy_15
  rintro _ My ⟨hC, rfl, be, hWD, hb0, hCF, hXO⟩
  have hoy := hCF ao (by rw [hao]; decide) (by rw [hao]; decide) han
  have hk21 : mK My ao = 21 := hoy.1.trans hao
  have hn21 : mN My ao = 1 := hoy.2.1.trans hao1
  refine V.eSt (st' := [.long (hadL τ (un τ 38 x.toNatClampNeg) (y.toNatClampNeg + 1) x.toNatClampNeg), .int (nI 0), .ref ao]) rfl ?_
  refine r_lastoreN C hk21 hn21 (by omega) (by omega) dL_takenBy_8 ?_
  refine r_goto C (t := 16) dL_takenBy_9 (by decide) ?_
  refine r_iconst C (v := nI 0) dL_takenBy_16 (by decide) ?_
  refine V.xret ?_
  exact r_iret C hr (⟨by rw [hC], fun _ x_ h_ => (by cases h_; exact wL_i), be, by rw [if_pos hC]; exact hWD.fr (hwU hC) ao_fr (fun k_ hk_ e_ => hXO ao (by rw [hao]; decide) han k_ hk_ e_.symm), hb0, LQ.of hCF, by rw [if_pos hC]; exact hXO⟩) (by first | exact Nat.zero_le _ | decide) (by first | exact Nat.zero_le _ | decide) dL_takenBy_17
set_option maxHeartbeats 1000000 in
set_option maxRecDepth 100000 in
theorem c_L_advance (l : Launch) (hfl : l.flags = flags0) (G : gW) (M : Mem) (τ : Mu) (hw : WF τ) (α : Nat → Nat) (hws : WS τ G α M) (hwt : WT τ α M) (hwb : WB τ α M) (had : ∀ p, p < 6 → AD τ p) (x y : Int32) (ao : Nat) (hao : mK M ao = 21) (hao1 : mN M ao = 1) (han : ∀ k, LV τ k → ao ≠ α k) (hwU : (cd3 (rng x 6) (inB y (lN 1) (lN 1000000)) (decide (un τ 46 46 ≠ 24))) = 0 → WF (sL τ 45 (24 * x.toNatClampNeg + un τ 46 46) (τ.2 45 (24 * x.toNatClampNeg + un τ 46 46) + y.toInt64))) : CH l yL_advance cL_advance 5 (some .int) [(0, 9, 12, 13), (0, 9, 16, 15), (0, 9, 20, 17)] 8 3 18 125 G M [.ref (α 0), .int x, .int y, .ref ao] (fun v M' => LPo τ G α M ao (cd3 (rng x 6) (inB y (lN 1) (lN 1000000)) (decide (un τ 46 46 ≠ 24))) (sL τ 45 (24 * x.toNatClampNeg + un τ 46 46) (τ.2 45 (24 * x.toNatClampNeg + un τ 46 46) + y.toInt64)) (some (sumL (fun m => (sL τ 45 (24 * x.toNatClampNeg + un τ 46 46) (τ.2 45 (24 * x.toNatClampNeg + un τ 46 46) + y.toInt64)).2 45 (24 * x.toNatClampNeg + m)) 24)) v M') := by
  refine CH.of hfl rfl (Nat.le_of_ble_eq_true rfl) ?_
  intro pp ee ss mm ar bw mt cd C hgX hr htab
  refine V.eLo (lo' := [(0, .ref (α 0)), (1, .int x), (2, .int y), (3, .ref ao)]) rfl ?_
  refine r_aload_n C 3 dL_advance_0 rfl rfl ?_
  refine r_iconst C (v := nI 0) dL_advance_1 (by decide) ?_
  refine r_aload_n C 0 dL_advance_2 rfl rfl ?_
  refine r_iload_n C 1 dL_advance_3 rfl rfl ?_
  refine r_iload_n C 2 dL_advance_4 rfl rfl ?_
  refine r_xVc C hgX (ci := 13) ml_L_104 im_X11_advance se_X11_advance rfl rfl (hws.2.1.k 0 14 rfl) (c_X11_advance l hfl G M τ hw α hws hwt hwb had x y) rfl (Nat.le_of_ble_eq_true rfl) ⟨Nat.le_of_ble_eq_true rfl, Nat.le_of_ble_eq_true rfl⟩ ⟨Nat.le_of_ble_eq_true rfl, Nat.le_of_ble_eq_true rfl⟩ dL_advance_5 rfl (fun E_ M_ h_ => ?_) ?_
  · obtain ⟨hC0, rfl, rfl⟩ := h_
    rcases cd3_c (rng x 6) (inB y (lN 1) (lN 1000000)) (decide (un τ 46 46 ≠ 24)) with hC | hC | hC | hC
    · exact absurd hC hC0
    · refine ⟨12, ?_, fun q_ => ?_⟩
      · rw [hC]; exact ⟨[], ⟨0, 9, 12, 13⟩, [⟨0, 9, 16, 15⟩, ⟨0, 9, 20, 17⟩], htab, (fun z_ hz_ => absurd hz_ (List.not_mem_nil)), by decide, by decide, cl_L_13, hgX.2.2.2.2.2.1.1, rfl⟩
      · skip
        refine r_astore C (lo' := [(4, .ref q_), (0, .ref (α 0)), (1, .int x), (2, .int y), (3, .ref ao)]) dL_advance_12 (by decide) rfl ?_
        refine r_iconst C (v := nI 1) dL_advance_14 (by decide) ?_
        refine V.xret ?_
        exact r_iret C hr (⟨by rw [hC], fun h_ => absurd h_ hC0, α, by rw [if_neg hC0]; exact WD.cl hw ⟨hws, hwt, hwb⟩, rfl, LQ.cl, by rw [if_neg hC0]; exact fun _ _ hz_ => hz_⟩) (by first | exact Nat.zero_le _ | decide) (by first | exact Nat.zero_le _ | decide) dL_advance_15
    · refine ⟨16, ?_, fun q_ => ?_⟩
      · rw [hC]; exact ⟨[⟨0, 9, 12, 13⟩], ⟨0, 9, 16, 15⟩, [⟨0, 9, 20, 17⟩], htab, (fun z_ hz_ => by rcases List.mem_cons.mp hz_ with rfl | hz_; exact ⟨by decide, _, cl_L_13, hgX.2.2.2.2.2.1.2.2.2.2.1 ("java/lang/IllegalArgumentException", "java/lang/IndexOutOfBoundsException") (by decide)⟩; exact absurd hz_ (List.not_mem_nil)), by decide, by decide, cl_L_15, hgX.2.2.2.2.2.1.2.1, rfl⟩
      · skip
        refine r_astore C (lo' := [(4, .ref q_), (0, .ref (α 0)), (1, .int x), (2, .int y), (3, .ref ao)]) dL_advance_16 (by decide) rfl ?_
        refine r_iconst C (v := nI 2) dL_advance_18 (by decide) ?_
        refine V.xret ?_
        exact r_iret C hr (⟨by rw [hC], fun h_ => absurd h_ hC0, α, by rw [if_neg hC0]; exact WD.cl hw ⟨hws, hwt, hwb⟩, rfl, LQ.cl, by rw [if_neg hC0]; exact fun _ _ hz_ => hz_⟩) (by first | exact Nat.zero_le _ | decide) (by first | exact Nat.zero_le _ | decide) dL_advance_19
    · refine ⟨20, ?_, fun q_ => ?_⟩
      · rw [hC]; exact ⟨[⟨0, 9, 12, 13⟩, ⟨0, 9, 16, 15⟩], ⟨0, 9, 20, 17⟩, [], htab, (fun z_ hz_ => by rcases List.mem_cons.mp hz_ with rfl | hz_; exact ⟨by decide, _, cl_L_13, hgX.2.2.2.2.2.1.2.2.2.2.1 ("java/lang/IllegalStateException", "java/lang/IndexOutOfBoundsException") (by decide)⟩; rcases List.mem_cons.mp hz_ with rfl | hz_; exact ⟨by decide, _, cl_L_15, hgX.2.2.2.2.2.1.2.2.2.2.1 ("java/lang/IllegalStateException", "java/lang/IllegalArgumentException") (by decide)⟩; exact absurd hz_ (List.not_mem_nil)), by decide, by decide, cl_L_17, hgX.2.2.2.2.2.1.2.2.1, rfl⟩
      · skip
        refine r_astore C (lo' := [(4, .ref q_), (0, .ref (α 0)), (1, .int x), (2, .int y), (3, .ref ao)]) dL_advance_20 (by decide) rfl ?_
        refine r_iconst C (v := nI 3) dL_advance_22 (by decide) ?_
        refine V.xret ?_
        exact r_iret C hr (⟨by rw [hC], fun h_ => absurd h_ hC0, α, by rw [if_neg hC0]; exact WD.cl hw ⟨hws, hwt, hwb⟩, rfl, LQ.cl, by rw [if_neg hC0]; exact fun _ _ hz_ => hz_⟩) (by first | exact Nat.zero_le _ | decide) (by first | exact Nat.zero_le _ | decide) dL_advance_23
  rintro _ My ⟨hC, rfl, be, hWD, hb0, hCF, hXO⟩
  have hoy := hCF ao (by rw [hao]; decide) (by rw [hao]; decide) han
  have hk21 : mK My ao = 21 := hoy.1.trans hao
  have hn21 : mN My ao = 1 := hoy.2.1.trans hao1
  refine V.eSt (st' := [.long (sumL (fun m => (sL τ 45 (24 * x.toNatClampNeg + un τ 46 46) (τ.2 45 (24 * x.toNatClampNeg + un τ 46 46) + y.toInt64)).2 45 (24 * x.toNatClampNeg + m)) 24), .int (nI 0), .ref ao]) rfl ?_
  refine r_lastoreN C hk21 hn21 (by omega) (by omega) dL_advance_8 ?_
  refine r_goto C (t := 24) dL_advance_9 (by decide) ?_
  refine r_iconst C (v := nI 0) dL_advance_24 (by decide) ?_
  refine V.xret ?_
  exact r_iret C hr (⟨by rw [hC], fun _ x_ h_ => (by cases h_; exact wL_i), be, by rw [if_pos hC]; exact hWD.fr (hwU hC) ao_fr (fun k_ hk_ e_ => hXO ao (by rw [hao]; decide) han k_ hk_ e_.symm), hb0, LQ.of hCF, by rw [if_pos hC]; exact hXO⟩) (by first | exact Nat.zero_le _ | decide) (by first | exact Nat.zero_le _ | decide) dL_advance_25
set_option maxHeartbeats 1000000 in
set_option maxRecDepth 100000 in
theorem c_L_close (l : Launch) (hfl : l.flags = flags0) (G : gW) (M : Mem) (τ : Mu) (hw : WF τ) (α : Nat → Nat) (hws : WS τ G α M) (hwt : WT τ α M) (hwb : WB τ α M) (had : ∀ p, p < 6 → AD τ p) (hnp0 : un τ 51 51 ≤ 6 * un τ 46 46) (ao : Nat) (hao : mK M ao = 21) (hao1 : mN M ao = 1) (han : ∀ k, LV τ k → ao ≠ α k) (hwU : (cd1 (decide (un τ 46 46 ≠ 24))) = 0 → WF (clU τ)) : CH l yL_close cL_close 3 (some .int) [(0, 8, 11, 17)] 9 13 1830 275 G M [.ref (α 0), .ref ao] (fun v M' => LPo τ G α M ao (cd1 (decide (un τ 46 46 ≠ 24))) (clU τ) (some ((nI (un (clS τ 6) 51 51 - un τ 51 51)).toInt64)) v M') := by
  refine CH.of hfl rfl (Nat.le_of_ble_eq_true rfl) ?_
  intro pp ee ss mm ar bw mt cd C hgX hr htab
  refine V.eLo (lo' := [(0, .ref (α 0)), (1, .ref ao)]) rfl ?_
  refine r_aload_n C 1 dL_close_0 rfl rfl ?_
  refine r_iconst C (v := nI 0) dL_close_1 (by decide) ?_
  refine r_aload_n C 0 dL_close_2 rfl rfl ?_
  refine r_xVc C hgX (ci := 13) ml_L_107 im_X11_close se_X11_close rfl rfl (hws.2.1.k 0 14 rfl) (c_X11_close l hfl G M τ hw α hws hwt hwb had hnp0) rfl (Nat.le_of_ble_eq_true rfl) ⟨Nat.le_of_ble_eq_true rfl, Nat.le_of_ble_eq_true rfl⟩ ⟨Nat.le_of_ble_eq_true rfl, Nat.le_of_ble_eq_true rfl⟩ dL_close_3 rfl (fun E_ M_ h_ => ?_) ?_
  · obtain ⟨hC0, rfl, rfl⟩ := h_
    rcases cd1_c (decide (un τ 46 46 ≠ 24)) with hC | hC
    · exact absurd hC hC0
    · refine ⟨11, ?_, fun q_ => ?_⟩
      · rw [hC]; exact ⟨[], ⟨0, 8, 11, 17⟩, [], htab, (fun z_ hz_ => absurd hz_ (List.not_mem_nil)), by decide, by decide, cl_L_17, hgX.2.2.2.2.2.1.2.2.1, rfl⟩
      · skip
        refine r_astore_n C (lo' := [(2, .ref q_), (0, .ref (α 0)), (1, .ref ao)]) dL_close_11 rfl (by decide) rfl ?_
        refine r_iconst C (v := nI 1) dL_close_12 (by decide) ?_
        refine V.xret ?_
        exact r_iret C hr (⟨by rw [hC], fun h_ => absurd h_ hC0, α, by rw [if_neg hC0]; exact WD.cl hw ⟨hws, hwt, hwb⟩, rfl, LQ.cl, by rw [if_neg hC0]; exact fun _ _ hz_ => hz_⟩) (by first | exact Nat.zero_le _ | decide) (by first | exact Nat.zero_le _ | decide) dL_close_13
  rintro _ My ⟨hC, rfl, be, hWD, hb0, hCF, hXO⟩
  have hoy := hCF ao (by rw [hao]; decide) (by rw [hao]; decide) han
  have hk21 : mK My ao = 21 := hoy.1.trans hao
  have hn21 : mN My ao = 1 := hoy.2.1.trans hao1
  refine V.eSt (st' := [.int (nI (un (clS τ 6) 51 51 - un τ 51 51)), .int (nI 0), .ref ao]) rfl ?_
  refine r_i2l C dL_close_6 ?_
  refine r_lastoreN C hk21 hn21 (by omega) (by omega) dL_close_7 ?_
  refine r_goto C (t := 14) dL_close_8 (by decide) ?_
  refine r_iconst C (v := nI 0) dL_close_14 (by decide) ?_
  refine V.xret ?_
  exact r_iret C hr (⟨by rw [hC], fun _ x_ h_ => (by cases h_; exact wL_i), be, by rw [if_pos hC]; exact hWD.fr (hwU hC) ao_fr (fun k_ hk_ e_ => hXO ao (by rw [hao]; decide) han k_ hk_ e_.symm), hb0, LQ.of hCF, by rw [if_pos hC]; exact hXO⟩) (by first | exact Nat.zero_le _ | decide) (by first | exact Nat.zero_le _ | decide) dL_close_15
set_option maxHeartbeats 1000000 in
set_option maxRecDepth 100000 in
theorem c_L_payment (l : Launch) (hfl : l.flags = flags0) (G : gW) (M : Mem) (τ : Mu) (hw : WF τ) (α : Nat → Nat) (hws : WS τ G α M) (hwt : WT τ α M) (hwb : WB τ α M) (had : ∀ p, p < 6 → AD τ p) (x y : Int32) (ao : Nat) (hao : mK M ao = 21) (hao1 : mN M ao = 1) (han : ∀ k, LV τ k → ao ≠ α k) (hwU : (cd2 (rng x (un τ 51 51)) (inB y (lN 0) (lN 3))) = 0 → WF τ) : CH l yL_payment cL_payment 5 (some .int) [(0, 9, 12, 13), (0, 9, 16, 15)] 8 2 12 125 G M [.ref (α 0), .int x, .int y, .ref ao] (fun v M' => LPo τ G α M ao (cd2 (rng x (un τ 51 51)) (inB y (lN 0) (lN 3))) τ (some (pmL τ x.toNatClampNeg y.toNatClampNeg)) v M') := by
  refine CH.of hfl rfl (Nat.le_of_ble_eq_true rfl) ?_
  intro pp ee ss mm ar bw mt cd C hgX hr htab
  refine V.eLo (lo' := [(0, .ref (α 0)), (1, .int x), (2, .int y), (3, .ref ao)]) rfl ?_
  refine r_aload_n C 3 dL_payment_0 rfl rfl ?_
  refine r_iconst C (v := nI 0) dL_payment_1 (by decide) ?_
  refine r_aload_n C 0 dL_payment_2 rfl rfl ?_
  refine r_iload_n C 1 dL_payment_3 rfl rfl ?_
  refine r_iload_n C 2 dL_payment_4 rfl rfl ?_
  refine r_xVc C hgX (ci := 13) ml_L_111 im_X11_payment se_X11_payment rfl rfl (hws.2.1.k 0 14 rfl) (c_X11_payment l hfl G M τ hw α hws hwt hwb had x y) rfl (Nat.le_of_ble_eq_true rfl) ⟨Nat.le_of_ble_eq_true rfl, Nat.le_of_ble_eq_true rfl⟩ ⟨Nat.le_of_ble_eq_true rfl, Nat.le_of_ble_eq_true rfl⟩ dL_payment_5 rfl (fun E_ M_ h_ => ?_) ?_
  · obtain ⟨hC0, rfl, rfl⟩ := h_
    rcases cd2_c (rng x (un τ 51 51)) (inB y (lN 0) (lN 3)) with hC | hC | hC
    · exact absurd hC hC0
    · refine ⟨12, ?_, fun q_ => ?_⟩
      · rw [hC]; exact ⟨[], ⟨0, 9, 12, 13⟩, [⟨0, 9, 16, 15⟩], htab, (fun z_ hz_ => absurd hz_ (List.not_mem_nil)), by decide, by decide, cl_L_13, hgX.2.2.2.2.2.1.1, rfl⟩
      · skip
        refine r_astore C (lo' := [(4, .ref q_), (0, .ref (α 0)), (1, .int x), (2, .int y), (3, .ref ao)]) dL_payment_12 (by decide) rfl ?_
        refine r_iconst C (v := nI 1) dL_payment_14 (by decide) ?_
        refine V.xret ?_
        exact r_iret C hr (⟨by rw [hC], fun h_ => absurd h_ hC0, α, by rw [if_neg hC0]; exact WD.cl hw ⟨hws, hwt, hwb⟩, rfl, LQ.cl, by rw [if_neg hC0]; exact fun _ _ hz_ => hz_⟩) (by first | exact Nat.zero_le _ | decide) (by first | exact Nat.zero_le _ | decide) dL_payment_15
    · refine ⟨16, ?_, fun q_ => ?_⟩
      · rw [hC]; exact ⟨[⟨0, 9, 12, 13⟩], ⟨0, 9, 16, 15⟩, [], htab, (fun z_ hz_ => by rcases List.mem_cons.mp hz_ with rfl | hz_; exact ⟨by decide, _, cl_L_13, hgX.2.2.2.2.2.1.2.2.2.2.1 ("java/lang/IllegalArgumentException", "java/lang/IndexOutOfBoundsException") (by decide)⟩; exact absurd hz_ (List.not_mem_nil)), by decide, by decide, cl_L_15, hgX.2.2.2.2.2.1.2.1, rfl⟩
      · skip
        refine r_astore C (lo' := [(4, .ref q_), (0, .ref (α 0)), (1, .int x), (2, .int y), (3, .ref ao)]) dL_payment_16 (by decide) rfl ?_
        refine r_iconst C (v := nI 2) dL_payment_18 (by decide) ?_
        refine V.xret ?_
        exact r_iret C hr (⟨by rw [hC], fun h_ => absurd h_ hC0, α, by rw [if_neg hC0]; exact WD.cl hw ⟨hws, hwt, hwb⟩, rfl, LQ.cl, by rw [if_neg hC0]; exact fun _ _ hz_ => hz_⟩) (by first | exact Nat.zero_le _ | decide) (by first | exact Nat.zero_le _ | decide) dL_payment_19
  rintro _ My ⟨hC, rfl, be, hWD, hb0, hCF, hXO⟩
  have hoy := hCF ao (by rw [hao]; decide) (by rw [hao]; decide) han
  have hk21 : mK My ao = 21 := hoy.1.trans hao
  have hn21 : mN My ao = 1 := hoy.2.1.trans hao1
  refine V.eSt (st' := [.long (pmL τ x.toNatClampNeg y.toNatClampNeg), .int (nI 0), .ref ao]) rfl ?_
  refine r_lastoreN C hk21 hn21 (by omega) (by omega) dL_payment_8 ?_
  refine r_goto C (t := 20) dL_payment_9 (by decide) ?_
  refine r_iconst C (v := nI 0) dL_payment_20 (by decide) ?_
  refine V.xret ?_
  exact r_iret C hr (⟨by rw [hC], fun _ x_ h_ => (by cases h_; exact wL_i), be, by rw [if_pos hC]; exact hWD.fr (hwU hC) ao_fr (fun k_ hk_ e_ => hXO ao (by rw [hao]; decide) han k_ hk_ e_.symm), hb0, LQ.of hCF, by rw [if_pos hC]; exact hXO⟩) (by first | exact Nat.zero_le _ | decide) (by first | exact Nat.zero_le _ | decide) dL_payment_21
set_option maxHeartbeats 1000000 in
set_option maxRecDepth 100000 in
theorem c_L_comeBack (l : Launch) (hfl : l.flags = flags0) (G : gW) (M : Mem) (τ : Mu) (hw : WF τ) (α : Nat → Nat) (hws : WS τ G α M) (hwt : WT τ α M) (hwb : WB τ α M) (had : ∀ p, p < 6 → AD τ p) (x : Int32) (ao : Nat) (hao : mK M ao = 21) (hao1 : mN M ao = 1) (han : ∀ k, LV τ k → ao ≠ α k) (hwU : (cd2 (rng x (un τ 51 51)) (decide (un τ 50 x.toNatClampNeg ≠ 1))) = 0 → WF (sI τ 50 x.toNatClampNeg (nI 1))) : CH l yL_comeBack cL_comeBack 4 (some .int) [(0, 8, 11, 13), (0, 8, 14, 17)] 8 2 12 124 G M [.ref (α 0), .int x, .ref ao] (fun v M' => LPo τ G α M ao (cd2 (rng x (un τ 51 51)) (decide (un τ 50 x.toNatClampNeg ≠ 1))) (sI τ 50 x.toNatClampNeg (nI 1)) (some (τ.2 49 x.toNatClampNeg)) v M') := by
  refine CH.of hfl rfl (Nat.le_of_ble_eq_true rfl) ?_
  intro pp ee ss mm ar bw mt cd C hgX hr htab
  refine V.eLo (lo' := [(0, .ref (α 0)), (1, .int x), (2, .ref ao)]) rfl ?_
  refine r_aload_n C 2 dL_comeBack_0 rfl rfl ?_
  refine r_iconst C (v := nI 0) dL_comeBack_1 (by decide) ?_
  refine r_aload_n C 0 dL_comeBack_2 rfl rfl ?_
  refine r_iload_n C 1 dL_comeBack_3 rfl rfl ?_
  refine r_xVc C hgX (ci := 13) ml_L_114 im_X11_comeBack se_X11_comeBack rfl rfl (hws.2.1.k 0 14 rfl) (c_X11_comeBack l hfl G M τ hw α hws hwt hwb had x) rfl (Nat.le_of_ble_eq_true rfl) ⟨Nat.le_of_ble_eq_true rfl, Nat.le_of_ble_eq_true rfl⟩ ⟨Nat.le_of_ble_eq_true rfl, Nat.le_of_ble_eq_true rfl⟩ dL_comeBack_4 rfl (fun E_ M_ h_ => ?_) ?_
  · obtain ⟨hC0, rfl, rfl⟩ := h_
    rcases cd2_c (rng x (un τ 51 51)) (decide (un τ 50 x.toNatClampNeg ≠ 1)) with hC | hC | hC
    · exact absurd hC hC0
    · refine ⟨11, ?_, fun q_ => ?_⟩
      · rw [hC]; exact ⟨[], ⟨0, 8, 11, 13⟩, [⟨0, 8, 14, 17⟩], htab, (fun z_ hz_ => absurd hz_ (List.not_mem_nil)), by decide, by decide, cl_L_13, hgX.2.2.2.2.2.1.1, rfl⟩
      · skip
        refine r_astore_n C (lo' := [(3, .ref q_), (0, .ref (α 0)), (1, .int x), (2, .ref ao)]) dL_comeBack_11 rfl (by decide) rfl ?_
        refine r_iconst C (v := nI 1) dL_comeBack_12 (by decide) ?_
        refine V.xret ?_
        exact r_iret C hr (⟨by rw [hC], fun h_ => absurd h_ hC0, α, by rw [if_neg hC0]; exact WD.cl hw ⟨hws, hwt, hwb⟩, rfl, LQ.cl, by rw [if_neg hC0]; exact fun _ _ hz_ => hz_⟩) (by first | exact Nat.zero_le _ | decide) (by first | exact Nat.zero_le _ | decide) dL_comeBack_13
    · refine ⟨14, ?_, fun q_ => ?_⟩
      · rw [hC]; exact ⟨[⟨0, 8, 11, 13⟩], ⟨0, 8, 14, 17⟩, [], htab, (fun z_ hz_ => by rcases List.mem_cons.mp hz_ with rfl | hz_; exact ⟨by decide, _, cl_L_13, hgX.2.2.2.2.2.1.2.2.2.2.1 ("java/lang/IllegalStateException", "java/lang/IndexOutOfBoundsException") (by decide)⟩; exact absurd hz_ (List.not_mem_nil)), by decide, by decide, cl_L_17, hgX.2.2.2.2.2.1.2.2.1, rfl⟩
      · skip
        refine r_astore_n C (lo' := [(3, .ref q_), (0, .ref (α 0)), (1, .int x), (2, .ref ao)]) dL_comeBack_14 rfl (by decide) rfl ?_
        refine r_iconst C (v := nI 2) dL_comeBack_15 (by decide) ?_
        refine V.xret ?_
        exact r_iret C hr (⟨by rw [hC], fun h_ => absurd h_ hC0, α, by rw [if_neg hC0]; exact WD.cl hw ⟨hws, hwt, hwb⟩, rfl, LQ.cl, by rw [if_neg hC0]; exact fun _ _ hz_ => hz_⟩) (by first | exact Nat.zero_le _ | decide) (by first | exact Nat.zero_le _ | decide) dL_comeBack_16
  rintro _ My ⟨hC, rfl, be, hWD, hb0, hCF, hXO⟩
  have hoy := hCF ao (by rw [hao]; decide) (by rw [hao]; decide) han
  have hk21 : mK My ao = 21 := hoy.1.trans hao
  have hn21 : mN My ao = 1 := hoy.2.1.trans hao1
  refine V.eSt (st' := [.long (τ.2 49 x.toNatClampNeg), .int (nI 0), .ref ao]) rfl ?_
  refine r_lastoreN C hk21 hn21 (by omega) (by omega) dL_comeBack_7 ?_
  refine r_goto C (t := 17) dL_comeBack_8 (by decide) ?_
  refine r_iconst C (v := nI 0) dL_comeBack_17 (by decide) ?_
  refine V.xret ?_
  exact r_iret C hr (⟨by rw [hC], fun _ x_ h_ => (by cases h_; exact wL_i), be, by rw [if_pos hC]; exact hWD.fr (hwU hC) ao_fr (fun k_ hk_ e_ => hXO ao (by rw [hao]; decide) han k_ hk_ e_.symm), hb0, LQ.of hCF, by rw [if_pos hC]; exact hXO⟩) (by first | exact Nat.zero_le _ | decide) (by first | exact Nat.zero_le _ | decide) dL_comeBack_18
set_option maxHeartbeats 1000000 in
set_option maxRecDepth 100000 in
theorem c_L_owed (l : Launch) (hfl : l.flags = flags0) (G : gW) (M : Mem) (τ : Mu) (hw : WF τ) (α : Nat → Nat) (hws : WS τ G α M) (hwt : WT τ α M) (hwb : WB τ α M) (had : ∀ p, p < 6 → AD τ p) (x : Int32) (ao : Nat) (hao : mK M ao = 21) (hao1 : mN M ao = 1) (han : ∀ k, LV τ k → ao ≠ α k) (hwU : (cd1 (rng x 6)) = 0 → WF τ) : CH l yL_owed cL_owed 4 (some .int) [(0, 8, 11, 13)] 8 1 6 209 G M [.ref (α 0), .int x, .ref ao] (fun v M' => LPo τ G α M ao (cd1 (rng x 6)) τ (some (pdL τ x.toNatClampNeg (sumL (pyL τ x.toNatClampNeg) ((if un τ 46 46 = 24 then 23 else un τ 46 46) + 1)) (un τ 51 51))) v M') := by
  refine CH.of hfl rfl (Nat.le_of_ble_eq_true rfl) ?_
  intro pp ee ss mm ar bw mt cd C hgX hr htab
  refine V.eLo (lo' := [(0, .ref (α 0)), (1, .int x), (2, .ref ao)]) rfl ?_
  refine r_aload_n C 2 dL_owed_0 rfl rfl ?_
  refine r_iconst C (v := nI 0) dL_owed_1 (by decide) ?_
  refine r_aload_n C 0 dL_owed_2 rfl rfl ?_
  refine r_iload_n C 1 dL_owed_3 rfl rfl ?_
  refine r_xVc C hgX (ci := 13) ml_L_118 im_X11_owed se_X11_owed rfl rfl (hws.2.1.k 0 14 rfl) (c_X11_owed l hfl G M τ hw α hws hwt hwb had x) rfl (Nat.le_of_ble_eq_true rfl) ⟨Nat.le_of_ble_eq_true rfl, Nat.le_of_ble_eq_true rfl⟩ ⟨Nat.le_of_ble_eq_true rfl, Nat.le_of_ble_eq_true rfl⟩ dL_owed_4 rfl (fun E_ M_ h_ => ?_) ?_
  · obtain ⟨hC0, rfl, rfl⟩ := h_
    rcases cd1_c (rng x 6) with hC | hC
    · exact absurd hC hC0
    · refine ⟨11, ?_, fun q_ => ?_⟩
      · rw [hC]; exact ⟨[], ⟨0, 8, 11, 13⟩, [], htab, (fun z_ hz_ => absurd hz_ (List.not_mem_nil)), by decide, by decide, cl_L_13, hgX.2.2.2.2.2.1.1, rfl⟩
      · skip
        refine r_astore_n C (lo' := [(3, .ref q_), (0, .ref (α 0)), (1, .int x), (2, .ref ao)]) dL_owed_11 rfl (by decide) rfl ?_
        refine r_iconst C (v := nI 1) dL_owed_12 (by decide) ?_
        refine V.xret ?_
        exact r_iret C hr (⟨by rw [hC], fun h_ => absurd h_ hC0, α, by rw [if_neg hC0]; exact WD.cl hw ⟨hws, hwt, hwb⟩, rfl, LQ.cl, by rw [if_neg hC0]; exact fun _ _ hz_ => hz_⟩) (by first | exact Nat.zero_le _ | decide) (by first | exact Nat.zero_le _ | decide) dL_owed_13
  rintro _ My ⟨hC, rfl, be, hWD, hb0, hCF, hXO⟩
  have hoy := hCF ao (by rw [hao]; decide) (by rw [hao]; decide) han
  have hk21 : mK My ao = 21 := hoy.1.trans hao
  have hn21 : mN My ao = 1 := hoy.2.1.trans hao1
  refine V.eSt (st' := [.long (pdL τ x.toNatClampNeg (sumL (pyL τ x.toNatClampNeg) ((if un τ 46 46 = 24 then 23 else un τ 46 46) + 1)) (un τ 51 51)), .int (nI 0), .ref ao]) rfl ?_
  refine r_lastoreN C hk21 hn21 (by omega) (by omega) dL_owed_7 ?_
  refine r_goto C (t := 14) dL_owed_8 (by decide) ?_
  refine r_iconst C (v := nI 0) dL_owed_14 (by decide) ?_
  refine V.xret ?_
  exact r_iret C hr (⟨by rw [hC], fun _ x_ h_ => (by cases h_; exact wL_i), be, by rw [if_pos hC]; exact hWD.fr (hwU hC) ao_fr (fun k_ hk_ e_ => hXO ao (by rw [hao]; decide) han k_ hk_ e_.symm), hb0, LQ.of hCF, by rw [if_pos hC]; exact hXO⟩) (by first | exact Nat.zero_le _ | decide) (by first | exact Nat.zero_le _ | decide) dL_owed_15
set_option maxHeartbeats 1000000 in
set_option maxRecDepth 100000 in
theorem c_L_filed (l : Launch) (hfl : l.flags = flags0) (G : gW) (M : Mem) (τ : Mu) (hw : WF τ) (α : Nat → Nat) (hws : WS τ G α M) (hwt : WT τ α M) (hwb : WB τ α M) (had : ∀ p, p < 6 → AD τ p) (x y : Int32) (b : Bool) (ao : Nat) (hao : mK M ao = 21) (hao1 : mN M ao = 1) (han : ∀ k, LV τ k → ao ≠ α k) (hwU : (cd1 (rng x 3 && rng y 24)) = 0 → WF τ) : CH l yL_filed cL_filed 6 (some .int) [(0, 11, 14, 13)] 8 1 6 125 G M [.ref (α 0), .int x, .int y, .int (bI b), .ref ao] (fun v M' => LPo τ G α M ao (cd1 (rng x 3 && rng y 24)) τ (some (if b = true then τ.2 52 (24 * x.toNatClampNeg + y.toNatClampNeg) else τ.2 53 (24 * x.toNatClampNeg + y.toNatClampNeg))) v M') := by
  refine CH.of hfl rfl (Nat.le_of_ble_eq_true rfl) ?_
  intro pp ee ss mm ar bw mt cd C hgX hr htab
  refine V.eLo (lo' := [(0, .ref (α 0)), (1, .int x), (2, .int y), (3, .int (bI b)), (4, .ref ao)]) rfl ?_
  refine r_aload C 4 dL_filed_0 rfl ?_
  refine r_iconst C (v := nI 0) dL_filed_2 (by decide) ?_
  refine r_aload_n C 0 dL_filed_3 rfl rfl ?_
  refine r_iload_n C 1 dL_filed_4 rfl rfl ?_
  refine r_iload_n C 2 dL_filed_5 rfl rfl ?_
  refine r_iload_n C 3 dL_filed_6 rfl rfl ?_
  refine r_xVc C hgX (ci := 13) ml_L_121 im_X11_filed se_X11_filed rfl rfl (hws.2.1.k 0 14 rfl) (c_X11_filed l hfl G M τ hw α hws hwt hwb had x y b) rfl (Nat.le_of_ble_eq_true rfl) ⟨Nat.le_of_ble_eq_true rfl, Nat.le_of_ble_eq_true rfl⟩ ⟨Nat.le_of_ble_eq_true rfl, Nat.le_of_ble_eq_true rfl⟩ dL_filed_7 rfl (fun E_ M_ h_ => ?_) ?_
  · obtain ⟨hC0, rfl, rfl⟩ := h_
    rcases cd1_c (rng x 3 && rng y 24) with hC | hC
    · exact absurd hC hC0
    · refine ⟨14, ?_, fun q_ => ?_⟩
      · rw [hC]; exact ⟨[], ⟨0, 11, 14, 13⟩, [], htab, (fun z_ hz_ => absurd hz_ (List.not_mem_nil)), by decide, by decide, cl_L_13, hgX.2.2.2.2.2.1.1, rfl⟩
      · skip
        refine r_astore C (lo' := [(5, .ref q_), (0, .ref (α 0)), (1, .int x), (2, .int y), (3, .int (bI b)), (4, .ref ao)]) dL_filed_14 (by decide) rfl ?_
        refine r_iconst C (v := nI 1) dL_filed_16 (by decide) ?_
        refine V.xret ?_
        exact r_iret C hr (⟨by rw [hC], fun h_ => absurd h_ hC0, α, by rw [if_neg hC0]; exact WD.cl hw ⟨hws, hwt, hwb⟩, rfl, LQ.cl, by rw [if_neg hC0]; exact fun _ _ hz_ => hz_⟩) (by first | exact Nat.zero_le _ | decide) (by first | exact Nat.zero_le _ | decide) dL_filed_17
  rintro _ My ⟨hC, rfl, be, hWD, hb0, hCF, hXO⟩
  have hoy := hCF ao (by rw [hao]; decide) (by rw [hao]; decide) han
  have hk21 : mK My ao = 21 := hoy.1.trans hao
  have hn21 : mN My ao = 1 := hoy.2.1.trans hao1
  refine V.eSt (st' := [.long (if b = true then τ.2 52 (24 * x.toNatClampNeg + y.toNatClampNeg) else τ.2 53 (24 * x.toNatClampNeg + y.toNatClampNeg)), .int (nI 0), .ref ao]) rfl ?_
  refine r_lastoreN C hk21 hn21 (by omega) (by omega) dL_filed_10 ?_
  refine r_goto C (t := 18) dL_filed_11 (by decide) ?_
  refine r_iconst C (v := nI 0) dL_filed_18 (by decide) ?_
  refine V.xret ?_
  exact r_iret C hr (⟨by rw [hC], fun _ x_ h_ => (by cases h_; exact wL_i), be, by rw [if_pos hC]; exact hWD.fr (hwU hC) ao_fr (fun k_ hk_ e_ => hXO ao (by rw [hao]; decide) han k_ hk_ e_.symm), hb0, LQ.of hCF, by rw [if_pos hC]; exact hXO⟩) (by first | exact Nat.zero_le _ | decide) (by first | exact Nat.zero_le _ | decide) dL_filed_19
set_option maxHeartbeats 1000000 in
set_option maxRecDepth 100000 in
theorem c_L_corrections (l : Launch) (hfl : l.flags = flags0) (G : gW) (M : Mem) (τ : Mu) (hw : WF τ) (α : Nat → Nat) (hws : WS τ G α M) (hwt : WT τ α M) (hwb : WB τ α M) (had : ∀ p, p < 6 → AD τ p) (x y : Int32) (ao : Nat) (hao : mK M ao = 21) (hao1 : mN M ao = 1) (han : ∀ k, LV τ k → ao ≠ α k) (hwU : (cd1 (rng x 3 && rng y 24)) = 0 → WF τ) : CH l yL_corrections cL_corrections 5 (some .int) [(0, 10, 13, 13)] 8 1 6 124 G M [.ref (α 0), .int x, .int y, .ref ao] (fun v M' => LPo τ G α M ao (cd1 (rng x 3 && rng y 24)) τ (some ((τ.1 54 (24 * x.toNatClampNeg + y.toNatClampNeg)).toInt64)) v M') := by
  refine CH.of hfl rfl (Nat.le_of_ble_eq_true rfl) ?_
  intro pp ee ss mm ar bw mt cd C hgX hr htab
  refine V.eLo (lo' := [(0, .ref (α 0)), (1, .int x), (2, .int y), (3, .ref ao)]) rfl ?_
  refine r_aload_n C 3 dL_corrections_0 rfl rfl ?_
  refine r_iconst C (v := nI 0) dL_corrections_1 (by decide) ?_
  refine r_aload_n C 0 dL_corrections_2 rfl rfl ?_
  refine r_iload_n C 1 dL_corrections_3 rfl rfl ?_
  refine r_iload_n C 2 dL_corrections_4 rfl rfl ?_
  refine r_xVc C hgX (ci := 13) ml_L_125 im_X11_corrections se_X11_corrections rfl rfl (hws.2.1.k 0 14 rfl) (c_X11_corrections l hfl G M τ hw α hws hwt hwb had x y) rfl (Nat.le_of_ble_eq_true rfl) ⟨Nat.le_of_ble_eq_true rfl, Nat.le_of_ble_eq_true rfl⟩ ⟨Nat.le_of_ble_eq_true rfl, Nat.le_of_ble_eq_true rfl⟩ dL_corrections_5 rfl (fun E_ M_ h_ => ?_) ?_
  · obtain ⟨hC0, rfl, rfl⟩ := h_
    rcases cd1_c (rng x 3 && rng y 24) with hC | hC
    · exact absurd hC hC0
    · refine ⟨13, ?_, fun q_ => ?_⟩
      · rw [hC]; exact ⟨[], ⟨0, 10, 13, 13⟩, [], htab, (fun z_ hz_ => absurd hz_ (List.not_mem_nil)), by decide, by decide, cl_L_13, hgX.2.2.2.2.2.1.1, rfl⟩
      · skip
        refine r_astore C (lo' := [(4, .ref q_), (0, .ref (α 0)), (1, .int x), (2, .int y), (3, .ref ao)]) dL_corrections_13 (by decide) rfl ?_
        refine r_iconst C (v := nI 1) dL_corrections_15 (by decide) ?_
        refine V.xret ?_
        exact r_iret C hr (⟨by rw [hC], fun h_ => absurd h_ hC0, α, by rw [if_neg hC0]; exact WD.cl hw ⟨hws, hwt, hwb⟩, rfl, LQ.cl, by rw [if_neg hC0]; exact fun _ _ hz_ => hz_⟩) (by first | exact Nat.zero_le _ | decide) (by first | exact Nat.zero_le _ | decide) dL_corrections_16
  rintro _ My ⟨hC, rfl, be, hWD, hb0, hCF, hXO⟩
  have hoy := hCF ao (by rw [hao]; decide) (by rw [hao]; decide) han
  have hk21 : mK My ao = 21 := hoy.1.trans hao
  have hn21 : mN My ao = 1 := hoy.2.1.trans hao1
  refine V.eSt (st' := [.int (τ.1 54 (24 * x.toNatClampNeg + y.toNatClampNeg)), .int (nI 0), .ref ao]) rfl ?_
  refine r_i2l C dL_corrections_8 ?_
  refine r_lastoreN C hk21 hn21 (by omega) (by omega) dL_corrections_9 ?_
  refine r_goto C (t := 17) dL_corrections_10 (by decide) ?_
  refine r_iconst C (v := nI 0) dL_corrections_17 (by decide) ?_
  refine V.xret ?_
  exact r_iret C hr (⟨by rw [hC], fun _ x_ h_ => (by cases h_; exact wL_i), be, by rw [if_pos hC]; exact hWD.fr (hwU hC) ao_fr (fun k_ hk_ e_ => hXO ao (by rw [hao]; decide) han k_ hk_ e_.symm), hb0, LQ.of hCF, by rw [if_pos hC]; exact hXO⟩) (by first | exact Nat.zero_le _ | decide) (by first | exact Nat.zero_le _ | decide) dL_corrections_18
