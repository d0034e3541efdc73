/-! THE LAW: the class as the law sees it -/
/-- the class at q as told, and cells that aren't its -/
def OW (τ : Mu) (G : gW) (q : Nat) (F : Nat → Prop) (M : Mem) : Prop := ∃ α, WD τ G α M ∧ α 0 = q ∧ ∀ a, F a → mK M a ≠ 0 ∧ mK M a ≠ 26 ∧ ∀ k, LV τ k → a ≠ α k
/-- these cells stand as they stood -/
def KF (F : Nat → Prop) (M M' : Mem) : Prop := ∀ a, F a → mK M' a = mK M a ∧ mN M' a = mN M a ∧ mI M' a = mI M a ∧ mL M' a = mL M a ∧ mR M' a = mR M a
theorem KF.rf {F : Nat → Prop} {M : Mem} : KF F M M := fun _ _ => ⟨rfl, rfl, rfl, rfl, rfl⟩
theorem KF.tr {F : Nat → Prop} {M M1 M2 : Mem} (h : KF F M M1) (g : KF F M1 M2) : KF F M M2 := fun a ha => by
  obtain ⟨a1, a2, a3, a4, a5⟩ := h a ha
  obtain ⟨b1, b2, b3, b4, b5⟩ := g a ha
  exact ⟨b1.trans a1, b2.trans a2, b3.trans a3, b4.trans a4, b5.trans a5⟩
theorem KF.mono {F F' : Nat → Prop} {M M' : Mem} (h : KF F M M') (g : ∀ a, F' a → F a) : KF F' M M' := fun a ha => h a (g a ha)
theorem OW.mono {τ : Mu} {G : gW} {q : Nat} {F F' : Nat → Prop} {M : Mem} (h : OW τ G q F M) (g : ∀ a, F' a → F a) : OW τ G q F' M := by
  obtain ⟨α, h1, h2, h3⟩ := h
  exact ⟨α, h1, h2, fun a ha => h3 a (g a ha)⟩
theorem OW.of {τ U : Mu} {G : gW} {α β : Nat → Nat} {F : Nat → Prop} {M M' : Mem} (hF : ∀ a, F a → mK M a ≠ 0 ∧ mK M a ≠ 26 ∧ ∀ k, LV τ k → a ≠ α k) (hWD : WD U G β M') (hb : β 0 = α 0) (hCF : CF τ α M M') (hXO : XO τ α M U β) : OW U G (α 0) F M' ∧ KF F M M' :=
  ⟨⟨β, hWD, hb, fun a ha => by
    obtain ⟨h1, h2, h3⟩ := hF a ha
    have e := (hCF a h1 h2 h3).1
    exact ⟨by rw [e]; exact h1, by rw [e]; exact h2, hXO a h1 h3⟩⟩, fun a ha => hCF a (hF a ha).1 (hF a ha).2.1 (hF a ha).2.2⟩
theorem OW.cl {τ : Mu} {G : gW} {α : Nat → Nat} {F : Nat → Prop} {M : Mem} (hw : WF τ) (hF : ∀ a, F a → mK M a ≠ 0 ∧ mK M a ≠ 26 ∧ ∀ k, LV τ k → a ≠ α k) (hWD : WD τ G α M) : OW τ G (α 0) F (mCl M) ∧ KF F M (mCl M) :=
  ⟨⟨α, hWD.cl hw, rfl, hF⟩, fun a ha => ⟨rfl, mCl_n (hF a ha).1, rfl, rfl, rfl⟩⟩
/-- a cell that isn't the class's is written -/
theorem OW.wI {τ : Mu} {G : gW} {q z k : Nat} {F : Nat → Prop} {M : Mem} {v : Int32} (hw : WF τ) (h : OW τ G q F M) (hz : F z) : OW τ G q F (wI M z k v) := by
  obtain ⟨α, h1, h2, h3⟩ := h
  exact ⟨α, h1.fr hw (A := fun a => a = z) ((frm.rf _ M).wi k v rfl) (fun j hj e => (h3 z hz).2.2 j hj e.symm), h2, h3⟩
/-- what a word of the law's for a method answers -/
def WPo (τ : Mu) (G : gW) (q : Nat) (F : Nat → Prop) (M : Mem) (Cd : Nat) (U : Mu) (R : Value) (ts : List Value) (v : Option Value) (M' : Mem) : Prop :=
  v = some (if Cd = 0 then R else ts.getD (Cd - 1) R) ∧ OW (if Cd = 0 then U else τ) G q F M' ∧ KF F M M'
theorem cd1_c (a : Bool) : cd1 a = 0 ∨ cd1 a = 1 := by cases a <;> simp [cd1]
theorem cd2_c (a b : Bool) : cd2 a b = 0 ∨ cd2 a b = 1 ∨ cd2 a b = 2 := by cases a <;> cases b <;> simp [cd2]
theorem cd3_c (a b c : Bool) : cd3 a b c = 0 ∨ cd3 a b c = 1 ∨ cd3 a b c = 2 ∨ cd3 a b c = 3 := by cases a <;> cases b <;> cases c <;> simp [cd3]
section RowsQ
variable {p : Program} {l : Launch} {e : Env} {R : Room} {s : State} {m : MethodId} {args : Array Value} {below : List Frame} {meth : Method} {c : Code} {G : gW} {own : String} {cc : ByteArray} {nL : Nat} {M : Mem} {cells slots pc mc0 ms0 : Nat} {lo : List (Nat × Value)} {st : List Value} {Qc : Array Value → State → Outcome → State → Prop} {X0 : String → Mem → Prop} {XC : String → State → State → Prop}
variable {C : String} {idx : Nat} {y : MethodName} {b : ByteArray} {maxL n fr mc ms lc : Nat} {ret : Option FieldType} {As : List Value}
variable {Q : State → Prop}
/-- a call of the class's method that doesn't throw here -/
theorem r_q (Cc : Cx p l s m args meth c G own cc nL) (hgX : gX G s s.heap) {τ U : Mu} {q Cd : Nat} {F : Nat → Prop} {RV : Option Value} {ex : List String} (h : OW τ G q F M) (L : ML own idx RX11 y b maxL ret n) (hi : Cond.instanceMethod y ∈ tw_big) (hse : Cond.selects RX11 y y ∈ tw_big)
    (hM : ∀ α, WD τ G α M → CX l y b maxL ret fr mc ms lc G M (.ref (α 0) :: As) (fun v M' => PC τ G α M Cd U RV v M') (fun E M' => XP M Cd ex E M')) (h0 : Cd = 0) (hn : As.length = n) (hW : (st.map fun v => v.category).sum ≤ 8) (hR : fr + 1 ≤ R.frames ∧ 8 + (maxL + 11) + lc ≤ R.locals) (hf : cells + mc ≤ R.cells ∧ slots + ms ≤ R.slots) (hd : decode cc pc = .ok (.invokevirtual idx, 3)) {st0 : List Value} (hst : st0 = As.reverse ++ .ref q :: st)
    (kk : ∀ M', OW U G q F M' → KF F M M' → V p l e R s m args below meth c G Q nL M' (cells + mc) (slots + ms) (pc + 3) lo (RV.toList ++ st)) : V p l e R s m args below meth c G Q nL M cells slots pc lo st0 := by
  obtain ⟨α, hWD, rfl, hF⟩ := h
  refine r_xVc Cc hgX (ci := 13) L hi hse rfl rfl (hWD.1.2.1.k 0 14 rfl) (hM α hWD) hn hW hR hf hd hst (fun E M' hx => absurd h0 hx.1) (fun v M' hp => ?_)
  obtain ⟨_, rfl, β, hW2, hb0, hCF, hXO⟩ := hp
  obtain ⟨a1, a2⟩ := OW.of hF hW2 hb0 hCF hXO
  exact kk M' a1 a2
theorem r_qc (Cc : Cx p l s m args meth c G own cc nL) (hgX : gX G s s.heap) {τ U : Mu} {q Cd : Nat} {F : Nat → Prop} {RV : Option Value} (h : OW τ G q F M) (L : ML own idx RX11 y b maxL ret n) (hi : Cond.instanceMethod y ∈ tw_big) (hse : Cond.selects RX11 y y ∈ tw_big)
    (hM : ∀ α, WD τ G α M → CT l y b maxL ret fr mc ms lc G M (.ref (α 0) :: As) (fun v M' => PC τ G α M Cd U RV v M')) (hn : As.length = n) (hW : (st.map fun v => v.category).sum ≤ 8) (hR : fr + 1 ≤ R.frames ∧ 8 + (maxL + 11) + lc ≤ R.locals) (hf : cells + mc ≤ R.cells ∧ slots + ms ≤ R.slots) (hd : decode cc pc = .ok (.invokevirtual idx, 3)) {st0 : List Value} (hst : st0 = As.reverse ++ .ref q :: st)
    (kk : ∀ M', OW U G q F M' → KF F M M' → V p l e R s m args below meth c G Q nL M' (cells + mc) (slots + ms) (pc + 3) lo (RV.toList ++ st)) : V p l e R s m args below meth c G Q nL M cells slots pc lo st0 := by
  obtain ⟨α, hWD, rfl, hF⟩ := h
  refine r_callV Cc hgX (ci := 13) L hi hse rfl rfl (hWD.1.2.1.k 0 14 rfl) (hM α hWD) hn hW hR hf hd hst (fun v M' hp => ?_)
  obtain ⟨_, rfl, β, hW2, hb0, hCF, hXO⟩ := hp
  obtain ⟨a1, a2⟩ := OW.of hF hW2 hb0 hCF hXO
  exact kk M' a1 a2
end RowsQ
set_option maxHeartbeats 1000000 in
set_option maxRecDepth 100000 in
theorem c_L_contracts (l : Launch) (hfl : l.flags = flags0) (G : gW) (M : Mem) (τ : Mu) (hw : WF τ) (q : Nat) (F : Nat → Prop) (hO : OW τ G q F M) (had : ∀ p, p < 6 → AD τ p) (x y z t : Int32) (b : Bool) (n u : Int32) (hn6 : un τ 9 9 ≠ 10 → ∀ d, d < 720 → τ.1 6 (720 * un τ 9 9 + d) = -1) : CH l yL_contracts cL_contracts 9 (some .int) [(0, 15, 16, 15), (0, 15, 21, 17), (0, 15, 26, 19)] 8 15 2947 257 G M [.ref q, .int x, .int y, .int z, .int t, .int (bI b), .int n, .int u] (fun v M' => WPo τ G q F M (cd3 (rng x 6 && rng y 3 && rng z 720 && rng t 720) (decide (z ≤ t) && inB n (lN 60) (lN 600) && inB u (lN 0) (lN 1000000)) (decide (un τ 9 9 ≠ 10))) (sI (spS (sI (sI (sI (sI (sI (sI (sI τ 0 (un τ 9 9) x) 1 (un τ 9 9) y) 2 (un τ 9 9) z) 3 (un τ 9 9) t) 4 (un τ 9 9) (bI b)) 5 (un τ 9 9) n) 6 (720 * un τ 9 9 + z.toNatClampNeg) u) (un τ 9 9) 720) 9 9 (nI (un τ 9 9 + 1))) (.int (nI (un τ 9 9))) [.int (-2), .int (-3), .int (-4)] v M') := by
  obtain ⟨α, ⟨hws, hwt, hwb⟩, rfl, hF⟩ := hO
  refine CH.of hfl rfl (Nat.le_of_ble_eq_true rfl) ?_
  intro pp ee ss mm ar bw mt cd C hgX hr htab
  refine V.eLo (lo' := [(0, .ref (α 0)), (1, .int x), (2, .int y), (3, .int z), (4, .int t), (5, .int (bI b)), (6, .int n), (7, .int u)]) rfl ?_
  refine r_aload_n C 0 dL_contracts_0 rfl rfl ?_
  refine r_iload_n C 1 dL_contracts_1 rfl rfl ?_
  refine r_iload_n C 2 dL_contracts_2 rfl rfl ?_
  refine r_iload_n C 3 dL_contracts_3 rfl rfl ?_
  refine r_iload C 4 dL_contracts_4 rfl ?_
  refine r_iload C 5 dL_contracts_6 rfl ?_
  refine r_iload C 6 dL_contracts_8 rfl ?_
  refine r_iload C 7 dL_contracts_10 rfl ?_
  refine r_xVc C hgX (ci := 13) ml_L_9 im_X11_contract se_X11_contract rfl rfl (hws.2.1.k 0 14 rfl) (c_X11_contract l hfl G M τ hw α hws hwt hwb had x y z t b n u hn6) rfl (Nat.le_of_ble_eq_true rfl) ⟨Nat.le_of_ble_eq_true rfl, Nat.le_of_ble_eq_true rfl⟩ ⟨Nat.le_of_ble_eq_true rfl, Nat.le_of_ble_eq_true rfl⟩ dL_contracts_12 rfl (fun E_ M_ h_ => ?_) ?_
  · obtain ⟨hC0, rfl, rfl⟩ := h_
    rcases cd3_c (rng x 6 && rng y 3 && rng z 720 && rng t 720) (decide (z ≤ t) && inB n (lN 60) (lN 600) && inB u (lN 0) (lN 1000000)) (decide (un τ 9 9 ≠ 10)) with hC | hC | hC | hC
    · exact absurd hC hC0
    · refine ⟨16, ?_, fun q_ => ?_⟩
      · rw [hC]; exact ⟨[], ⟨0, 15, 16, 15⟩, [⟨0, 15, 21, 17⟩, ⟨0, 15, 26, 19⟩], htab, (fun z_ hz_ => absurd hz_ (List.not_mem_nil)), by decide, by decide, cl_L_15, hgX.2.2.2.2.2.1.1, rfl⟩
      · skip
        refine r_astore C (lo' := [(8, .ref q_), (0, .ref (α 0)), (1, .int x), (2, .int y), (3, .int z), (4, .int t), (5, .int (bI b)), (6, .int n), (7, .int u)]) dL_contracts_16 (by decide) rfl ?_
        refine r_bipush C (v := (-2)) dL_contracts_18 (by decide) ?_
        refine V.xret ?_
        exact r_iret C hr (⟨by rw [hC]; rfl, by rw [if_neg hC0]; exact (OW.cl hw hF ⟨hws, hwt, hwb⟩).1, (OW.cl hw hF ⟨hws, hwt, hwb⟩).2⟩) (by first | exact Nat.zero_le _ | decide) (by first | exact Nat.zero_le _ | decide) dL_contracts_20
    · refine ⟨21, ?_, fun q_ => ?_⟩
      · rw [hC]; exact ⟨[⟨0, 15, 16, 15⟩], ⟨0, 15, 21, 17⟩, [⟨0, 15, 26, 19⟩], htab, (fun z_ hz_ => by rcases List.mem_cons.mp hz_ with rfl | hz_; exact ⟨by decide, _, cl_L_15, hgX.2.2.2.2.2.1.2.2.2.2.1 ("java/lang/IllegalArgumentException", "java/lang/IndexOutOfBoundsException") (by decide)⟩; exact absurd hz_ (List.not_mem_nil)), by decide, by decide, cl_L_17, hgX.2.2.2.2.2.1.2.1, rfl⟩
      · skip
        refine r_astore C (lo' := [(8, .ref q_), (0, .ref (α 0)), (1, .int x), (2, .int y), (3, .int z), (4, .int t), (5, .int (bI b)), (6, .int n), (7, .int u)]) dL_contracts_21 (by decide) rfl ?_
        refine r_bipush C (v := (-3)) dL_contracts_23 (by decide) ?_
        refine V.xret ?_
        exact r_iret C hr (⟨by rw [hC]; rfl, by rw [if_neg hC0]; exact (OW.cl hw hF ⟨hws, hwt, hwb⟩).1, (OW.cl hw hF ⟨hws, hwt, hwb⟩).2⟩) (by first | exact Nat.zero_le _ | decide) (by first | exact Nat.zero_le _ | decide) dL_contracts_25
    · refine ⟨26, ?_, fun q_ => ?_⟩
      · rw [hC]; exact ⟨[⟨0, 15, 16, 15⟩, ⟨0, 15, 21, 17⟩], ⟨0, 15, 26, 19⟩, [], htab, (fun z_ hz_ => by rcases List.mem_cons.mp hz_ with rfl | hz_; exact ⟨by decide, _, cl_L_15, hgX.2.2.2.2.2.1.2.2.2.2.1 ("java/lang/IllegalStateException", "java/lang/IndexOutOfBoundsException") (by decide)⟩; rcases List.mem_cons.mp hz_ with rfl | hz_; exact ⟨by decide, _, cl_L_17, hgX.2.2.2.2.2.1.2.2.2.2.1 ("java/lang/IllegalStateException", "java/lang/IllegalArgumentException") (by decide)⟩; exact absurd hz_ (List.not_mem_nil)), by decide, by decide, cl_L_19, hgX.2.2.2.2.2.1.2.2.1, rfl⟩
      · skip
        refine r_astore C (lo' := [(8, .ref q_), (0, .ref (α 0)), (1, .int x), (2, .int y), (3, .int z), (4, .int t), (5, .int (bI b)), (6, .int n), (7, .int u)]) dL_contracts_26 (by decide) rfl ?_
        refine r_bipush C (v := (-4)) dL_contracts_28 (by decide) ?_
        refine V.xret ?_
        exact r_iret C hr (⟨by rw [hC]; rfl, by rw [if_neg hC0]; exact (OW.cl hw hF ⟨hws, hwt, hwb⟩).1, (OW.cl hw hF ⟨hws, hwt, hwb⟩).2⟩) (by first | exact Nat.zero_le _ | decide) (by first | exact Nat.zero_le _ | decide) dL_contracts_30
  rintro _ My ⟨hC, rfl, be, hWD, hb0, hCF, hXO⟩
  refine V.eSt (st' := [.int (nI (un τ 9 9))]) rfl ?_
  refine V.xret ?_
  exact r_iret C hr (⟨by rw [if_pos hC], by rw [if_pos hC]; exact (OW.of hF hWD hb0 hCF hXO).1, (OW.of hF hWD hb0 hCF hXO).2⟩) (by first | exact Nat.zero_le _ | decide) (by first | exact Nat.zero_le _ | decide) dL_contracts_15
set_option maxHeartbeats 1000000 in
set_option maxRecDepth 100000 in
theorem c_L_shifts (l : Launch) (hfl : l.flags = flags0) (G : gW) (M : Mem) (τ : Mu) (hw : WF τ) (q : Nat) (F : Nat → Prop) (hO : OW τ G q F M) (had : ∀ p, p < 6 → AD τ p) (x y z w : Int32) : CH l yL_shifts cL_shifts 6 (some .int) [(0, 9, 10, 15), (0, 9, 15, 17), (0, 9, 20, 19)] 8 3 18 128 G M [.ref q, .int x, .int y, .int z, .int w] (fun v M' => WPo τ G q F M (cd3 (isOfB τ x y) (inB z (lN 0) (lN 1439) && inB w (lN 1) (lN 1440)) (shB τ x y z w)) ((shU τ x.toNatClampNeg y.toNatClampNeg z.toNatClampNeg w.toNatClampNeg)) (.int (nI (un τ 13 13 + 1))) [.int (-2), .int (-3), .int (-4)] v M') := by
  obtain ⟨α, ⟨hws, hwt, hwb⟩, rfl, hF⟩ := hO
  refine CH.of hfl rfl (Nat.le_of_ble_eq_true rfl) ?_
  intro pp ee ss mm ar bw mt cd C hgX hr htab
  refine V.eLo (lo' := [(0, .ref (α 0)), (1, .int x), (2, .int y), (3, .int z), (4, .int w)]) rfl ?_
  refine r_aload_n C 0 dL_shifts_0 rfl rfl ?_
  refine r_iload_n C 1 dL_shifts_1 rfl rfl ?_
  refine r_iload_n C 2 dL_shifts_2 rfl rfl ?_
  refine r_iload_n C 3 dL_shifts_3 rfl rfl ?_
  refine r_iload C 4 dL_shifts_4 rfl ?_
  refine r_xVc C hgX (ci := 13) ml_L_21 im_X11_shift se_X11_shift rfl rfl (hws.2.1.k 0 14 rfl) (c_X11_shift l hfl G M τ hw α hws hwt hwb had x y z w) rfl (Nat.le_of_ble_eq_true rfl) ⟨Nat.le_of_ble_eq_true rfl, Nat.le_of_ble_eq_true rfl⟩ ⟨Nat.le_of_ble_eq_true rfl, Nat.le_of_ble_eq_true rfl⟩ dL_shifts_6 rfl (fun E_ M_ h_ => ?_) ?_
  · obtain ⟨hC0, rfl, rfl⟩ := h_
    rcases cd3_c (isOfB τ x y) (inB z (lN 0) (lN 1439) && inB w (lN 1) (lN 1440)) (shB τ x y z w) with hC | hC | hC | hC
    · exact absurd hC hC0
    · refine ⟨10, ?_, fun q_ => ?_⟩
      · rw [hC]; exact ⟨[], ⟨0, 9, 10, 15⟩, [⟨0, 9, 15, 17⟩, ⟨0, 9, 20, 19⟩], htab, (fun z_ hz_ => absurd hz_ (List.not_mem_nil)), by decide, by decide, cl_L_15, hgX.2.2.2.2.2.1.1, rfl⟩
      · skip
        refine r_astore C (lo' := [(5, .ref q_), (0, .ref (α 0)), (1, .int x), (2, .int y), (3, .int z), (4, .int w)]) dL_shifts_10 (by decide) rfl ?_
        refine r_bipush C (v := (-2)) dL_shifts_12 (by decide) ?_
        refine V.xret ?_
        exact r_iret C hr (⟨by rw [hC]; rfl, by rw [if_neg hC0]; exact (OW.cl hw hF ⟨hws, hwt, hwb⟩).1, (OW.cl hw hF ⟨hws, hwt, hwb⟩).2⟩) (by first | exact Nat.zero_le _ | decide) (by first | exact Nat.zero_le _ | decide) dL_shifts_14
    · refine ⟨15, ?_, fun q_ => ?_⟩
      · rw [hC]; exact ⟨[⟨0, 9, 10, 15⟩], ⟨0, 9, 15, 17⟩, [⟨0, 9, 20, 19⟩], htab, (fun z_ hz_ => by rcases List.mem_cons.mp hz_ with rfl | hz_; exact ⟨by decide, _, cl_L_15, hgX.2.2.2.2.2.1.2.2.2.2.1 ("java/lang/IllegalArgumentException", "java/lang/IndexOutOfBoundsException") (by decide)⟩; exact absurd hz_ (List.not_mem_nil)), by decide, by decide, cl_L_17, hgX.2.2.2.2.2.1.2.1, rfl⟩
      · skip
        refine r_astore C (lo' := [(5, .ref q_), (0, .ref (α 0)), (1, .int x), (2, .int y), (3, .int z), (4, .int w)]) dL_shifts_15 (by decide) rfl ?_
        refine r_bipush C (v := (-3)) dL_shifts_17 (by decide) ?_
        refine V.xret ?_
        exact r_iret C hr (⟨by rw [hC]; rfl, by rw [if_neg hC0]; exact (OW.cl hw hF ⟨hws, hwt, hwb⟩).1, (OW.cl hw hF ⟨hws, hwt, hwb⟩).2⟩) (by first | exact Nat.zero_le _ | decide) (by first | exact Nat.zero_le _ | decide) dL_shifts_19
    · refine ⟨20, ?_, fun q_ => ?_⟩
      · rw [hC]; exact ⟨[⟨0, 9, 10, 15⟩, ⟨0, 9, 15, 17⟩], ⟨0, 9, 20, 19⟩, [], htab, (fun z_ hz_ => by rcases List.mem_cons.mp hz_ with rfl | hz_; exact ⟨by decide, _, cl_L_15, hgX.2.2.2.2.2.1.2.2.2.2.1 ("java/lang/IllegalStateException", "java/lang/IndexOutOfBoundsException") (by decide)⟩; rcases List.mem_cons.mp hz_ with rfl | hz_; exact ⟨by decide, _, cl_L_17, hgX.2.2.2.2.2.1.2.2.2.2.1 ("java/lang/IllegalStateException", "java/lang/IllegalArgumentException") (by decide)⟩; exact absurd hz_ (List.not_mem_nil)), by decide, by decide, cl_L_19, hgX.2.2.2.2.2.1.2.2.1, rfl⟩
      · skip
        refine r_astore C (lo' := [(5, .ref q_), (0, .ref (α 0)), (1, .int x), (2, .int y), (3, .int z), (4, .int w)]) dL_shifts_20 (by decide) rfl ?_
        refine r_bipush C (v := (-4)) dL_shifts_22 (by decide) ?_
        refine V.xret ?_
        exact r_iret C hr (⟨by rw [hC]; rfl, by rw [if_neg hC0]; exact (OW.cl hw hF ⟨hws, hwt, hwb⟩).1, (OW.cl hw hF ⟨hws, hwt, hwb⟩).2⟩) (by first | exact Nat.zero_le _ | decide) (by first | exact Nat.zero_le _ | decide) dL_shifts_24
  rintro _ My ⟨hC, rfl, be, hWD, hb0, hCF, hXO⟩
  refine V.eSt (st' := [.int (nI (un τ 13 13 + 1))]) rfl ?_
  refine V.xret ?_
  exact r_iret C hr (⟨by rw [if_pos hC], by rw [if_pos hC]; exact (OW.of hF hWD hb0 hCF hXO).1, (OW.of hF hWD hb0 hCF hXO).2⟩) (by first | exact Nat.zero_le _ | decide) (by first | exact Nat.zero_le _ | decide) dL_shifts_9
set_option maxHeartbeats 1000000 in
set_option maxRecDepth 100000 in
theorem c_L_leaves (l : Launch) (hfl : l.flags = flags0) (G : gW) (M : Mem) (τ : Mu) (hw : WF τ) (q : Nat) (F : Nat → Prop) (hO : OW τ G q F M) (had : ∀ p, p < 6 → AD τ p) (x y : Int32) : CH l yL_leaves cL_leaves 4 (some .int) [(0, 14, 15, 15), (0, 14, 19, 19)] 8 4 315 261 G M [.ref q, .int x, .int y] (fun v M' => WPo τ G q F M (cd2 (isOfB τ x y) (decide (un τ 17 17 ≠ 30))) ((sI (sI (sI τ 14 (un τ 17 17) x) 15 (un τ 17 17) y) 17 17 (nI (un τ 17 17 + 1)))) (.int (bI (decide (ltN (sI (sI (sI τ 14 (un τ 17 17) x) 15 (un τ 17 17) y) 17 17 (nI (un τ 17 17 + 1))) (un τ 17 17) = 1)))) [.int (-2), .int (-4)] v M') := by
  obtain ⟨α, ⟨hws, hwt, hwb⟩, rfl, hF⟩ := hO
  refine CH.of hfl rfl (Nat.le_of_ble_eq_true rfl) ?_
  intro pp ee ss mm ar bw mt cd C hgX hr htab
  refine V.eLo (lo' := [(0, .ref (α 0)), (1, .int x), (2, .int y)]) rfl ?_
  refine r_aload_n C 0 dL_leaves_0 rfl rfl ?_
  refine r_iload_n C 1 dL_leaves_1 rfl rfl ?_
  refine r_iload_n C 2 dL_leaves_2 rfl rfl ?_
  refine r_xVc C hgX (ci := 13) ml_L_25 im_X11_leave se_X11_leave rfl rfl (hws.2.1.k 0 14 rfl) (c_X11_leave l hfl G M τ hw α hws hwt hwb had x y) rfl (Nat.le_of_ble_eq_true rfl) ⟨Nat.le_of_ble_eq_true rfl, Nat.le_of_ble_eq_true rfl⟩ ⟨Nat.le_of_ble_eq_true rfl, Nat.le_of_ble_eq_true rfl⟩ dL_leaves_3 rfl (fun E_ M_ h_ => ?_) ?_
  · obtain ⟨hC0, rfl, rfl⟩ := h_
    rcases cd2_c (isOfB τ x y) (decide (un τ 17 17 ≠ 30)) with hC | hC | hC
    · exact absurd hC hC0
    · refine ⟨15, ?_, fun q_ => ?_⟩
      · rw [hC]; exact ⟨[], ⟨0, 14, 15, 15⟩, [⟨0, 14, 19, 19⟩], htab, (fun z_ hz_ => absurd hz_ (List.not_mem_nil)), by decide, by decide, cl_L_15, hgX.2.2.2.2.2.1.1, rfl⟩
      · skip
        refine r_astore_n C (lo' := [(3, .ref q_), (0, .ref (α 0)), (1, .int x), (2, .int y)]) dL_leaves_15 rfl (by decide) rfl ?_
        refine r_bipush C (v := (-2)) dL_leaves_16 (by decide) ?_
        refine V.xret ?_
        exact r_iret C hr (⟨by rw [hC]; rfl, by rw [if_neg hC0]; exact (OW.cl hw hF ⟨hws, hwt, hwb⟩).1, (OW.cl hw hF ⟨hws, hwt, hwb⟩).2⟩) (by first | exact Nat.zero_le _ | decide) (by first | exact Nat.zero_le _ | decide) dL_leaves_18
    · refine ⟨19, ?_, fun q_ => ?_⟩
      · rw [hC]; exact ⟨[⟨0, 14, 15, 15⟩], ⟨0, 14, 19, 19⟩, [], htab, (fun z_ hz_ => by rcases List.mem_cons.mp hz_ with rfl | hz_; exact ⟨by decide, _, cl_L_15, hgX.2.2.2.2.2.1.2.2.2.2.1 ("java/lang/IllegalStateException", "java/lang/IndexOutOfBoundsException") (by decide)⟩; exact absurd hz_ (List.not_mem_nil)), by decide, by decide, cl_L_19, hgX.2.2.2.2.2.1.2.2.1, rfl⟩
      · skip
        refine r_astore_n C (lo' := [(3, .ref q_), (0, .ref (α 0)), (1, .int x), (2, .int y)]) dL_leaves_19 rfl (by decide) rfl ?_
        refine r_bipush C (v := (-4)) dL_leaves_20 (by decide) ?_
        refine V.xret ?_
        exact r_iret C hr (⟨by rw [hC]; rfl, by rw [if_neg hC0]; exact (OW.cl hw hF ⟨hws, hwt, hwb⟩).1, (OW.cl hw hF ⟨hws, hwt, hwb⟩).2⟩) (by first | exact Nat.zero_le _ | decide) (by first | exact Nat.zero_le _ | decide) dL_leaves_22
  rintro _ My ⟨hC, rfl, be, hWD, hb0, hCF, hXO⟩
  refine V.eSt (st' := [.int (bI (decide (ltN (sI (sI (sI τ 14 (un τ 17 17) x) 15 (un τ 17 17) y) 17 17 (nI (un τ 17 17 + 1))) (un τ 17 17) = 1)))]) rfl ?_
  refine r_if_eqB C (t := 13) dL_leaves_6 (by decide) (fun c6 => ?_) (fun c6 => ?_)
  · skip
    have c6d := of_decide_eq_false c6
    refine r_iconst C (v := nI 0) dL_leaves_13 (by decide) ?_
    refine V.xret ?_
    exact r_iret C hr (⟨by rw [if_pos hC, c6]; rfl, by rw [if_pos hC]; exact (OW.of hF hWD hb0 hCF hXO).1, (OW.of hF hWD hb0 hCF hXO).2⟩) (by first | exact Nat.zero_le _ | decide) (by first | exact Nat.zero_le _ | decide) dL_leaves_14
  · skip
    have c6d := of_decide_eq_true c6
    refine r_iconst C (v := nI 1) dL_leaves_9 (by decide) ?_
    refine r_goto C (t := 14) dL_leaves_10 (by decide) ?_
    refine V.xret ?_
    exact r_iret C hr (⟨by rw [if_pos hC, c6]; rfl, by rw [if_pos hC]; exact (OW.of hF hWD hb0 hCF hXO).1, (OW.of hF hWD hb0 hCF hXO).2⟩) (by first | exact Nat.zero_le _ | decide) (by first | exact Nat.zero_le _ | decide) dL_leaves_14
set_option maxHeartbeats 1000000 in
set_option maxRecDepth 100000 in
theorem c_L_words (l : Launch) (hfl : l.flags = flags0) (G : gW) (M : Mem) (τ : Mu) (hw : WF τ) (q : Nat) (F : Nat → Prop) (hO : OW τ G q F M) (had : ∀ p, p < 6 → AD τ p) (x y : Int32) : CH l yL_words cL_words 4 (some .int) [(0, 6, 7, 17), (0, 6, 11, 19)] 8 4 24 124 G M [.ref q, .int x, .int y] (fun v M' => WPo τ G q F M (cd2 (inB x (lN 0) (lN 9) && (decide (x ≠ nI 2) || inB y (lN 0) (lN 5)) && (decide (x ≠ nI 3) || inB y (-1000000) (lN 1000000))) (wdB τ x)) (sI (sI (sI τ 22 (60 + un τ 24 6) x) 23 (60 + un τ 24 6) y) 24 6 (nI (un τ 24 6 + 1))) (.int (nI (un τ 24 6 + 1))) [.int (-3), .int (-4)] v M') := by
  obtain ⟨α, ⟨hws, hwt, hwb⟩, rfl, hF⟩ := hO
  refine CH.of hfl rfl (Nat.le_of_ble_eq_true rfl) ?_
  intro pp ee ss mm ar bw mt cd C hgX hr htab
  refine V.eLo (lo' := [(0, .ref (α 0)), (1, .int x), (2, .int y)]) rfl ?_
  refine r_aload_n C 0 dL_words_0 rfl rfl ?_
  refine r_iload_n C 1 dL_words_1 rfl rfl ?_
  refine r_iload_n C 2 dL_words_2 rfl rfl ?_
  refine r_xVc C hgX (ci := 13) ml_L_29 im_X11_word se_X11_word rfl rfl (hws.2.1.k 0 14 rfl) (c_X11_word l hfl G M τ hw α hws hwt hwb had x y) rfl (Nat.le_of_ble_eq_true rfl) ⟨Nat.le_of_ble_eq_true rfl, Nat.le_of_ble_eq_true rfl⟩ ⟨Nat.le_of_ble_eq_true rfl, Nat.le_of_ble_eq_true rfl⟩ dL_words_3 rfl (fun E_ M_ h_ => ?_) ?_
  · obtain ⟨hC0, rfl, rfl⟩ := h_
    rcases cd2_c (inB x (lN 0) (lN 9) && (decide (x ≠ nI 2) || inB y (lN 0) (lN 5)) && (decide (x ≠ nI 3) || inB y (-1000000) (lN 1000000))) (wdB τ x) with hC | hC | hC
    · exact absurd hC hC0
    · refine ⟨7, ?_, fun q_ => ?_⟩
      · rw [hC]; exact ⟨[], ⟨0, 6, 7, 17⟩, [⟨0, 6, 11, 19⟩], htab, (fun z_ hz_ => absurd hz_ (List.not_mem_nil)), by decide, by decide, cl_L_17, hgX.2.2.2.2.2.1.2.1, rfl⟩
      · skip
        refine r_astore_n C (lo' := [(3, .ref q_), (0, .ref (α 0)), (1, .int x), (2, .int y)]) dL_words_7 rfl (by decide) rfl ?_
        refine r_bipush C (v := (-3)) dL_words_8 (by decide) ?_
        refine V.xret ?_
        exact r_iret C hr (⟨by rw [hC]; rfl, by rw [if_neg hC0]; exact (OW.cl hw hF ⟨hws, hwt, hwb⟩).1, (OW.cl hw hF ⟨hws, hwt, hwb⟩).2⟩) (by first | exact Nat.zero_le _ | decide) (by first | exact Nat.zero_le _ | decide) dL_words_10
    · refine ⟨11, ?_, fun q_ => ?_⟩
      · rw [hC]; exact ⟨[⟨0, 6, 7, 17⟩], ⟨0, 6, 11, 19⟩, [], htab, (fun z_ hz_ => by rcases List.mem_cons.mp hz_ with rfl | hz_; exact ⟨by decide, _, cl_L_17, hgX.2.2.2.2.2.1.2.2.2.2.1 ("java/lang/IllegalStateException", "java/lang/IllegalArgumentException") (by decide)⟩; exact absurd hz_ (List.not_mem_nil)), by decide, by decide, cl_L_19, hgX.2.2.2.2.2.1.2.2.1, rfl⟩
      · skip
        refine r_astore_n C (lo' := [(3, .ref q_), (0, .ref (α 0)), (1, .int x), (2, .int y)]) dL_words_11 rfl (by decide) rfl ?_
        refine r_bipush C (v := (-4)) dL_words_12 (by decide) ?_
        refine V.xret ?_
        exact r_iret C hr (⟨by rw [hC]; rfl, by rw [if_neg hC0]; exact (OW.cl hw hF ⟨hws, hwt, hwb⟩).1, (OW.cl hw hF ⟨hws, hwt, hwb⟩).2⟩) (by first | exact Nat.zero_le _ | decide) (by first | exact Nat.zero_le _ | decide) dL_words_14
  rintro _ My ⟨hC, rfl, be, hWD, hb0, hCF, hXO⟩
  refine V.eSt (st' := [.int (nI (un τ 24 6 + 1))]) rfl ?_
  refine V.xret ?_
  exact r_iret C hr (⟨by rw [if_pos hC], by rw [if_pos hC]; exact (OW.of hF hWD hb0 hCF hXO).1, (OW.of hF hWD hb0 hCF hXO).2⟩) (by first | exact Nat.zero_le _ | decide) (by first | exact Nat.zero_le _ | decide) dL_words_6
set_option maxHeartbeats 1000000 in
set_option maxRecDepth 100000 in
theorem c_L_elements (l : Launch) (hfl : l.flags = flags0) (G : gW) (M : Mem) (τ : Mu) (hw : WF τ) (q : Nat) (F : Nat → Prop) (hO : OW τ G q F M) (had : ∀ p, p < 6 → AD τ p) (x y : Int32) : CH l yL_elements cL_elements 4 (some .int) [(0, 6, 7, 15), (0, 6, 11, 17), (0, 6, 15, 19)] 8 3 18 124 G M [.ref q, .int x, .int y] (fun v M' => WPo τ G q F M (cd3 (inB x (lN 0) (lN (un τ 26 26)) && decide (x < nI 6)) (inB y (lN 0) (lN 63)) (elB τ x)) (elU τ x.toNatClampNeg y.toNatClampNeg) (.int (nI (un τ 26 26 + (if x.toNatClampNeg = un τ 26 26 then 1 else 0)))) [.int (-2), .int (-3), .int (-4)] v M') := by
  obtain ⟨α, ⟨hws, hwt, hwb⟩, rfl, hF⟩ := hO
  refine CH.of hfl rfl (Nat.le_of_ble_eq_true rfl) ?_
  intro pp ee ss mm ar bw mt cd C hgX hr htab
  refine V.eLo (lo' := [(0, .ref (α 0)), (1, .int x), (2, .int y)]) rfl ?_
  refine r_aload_n C 0 dL_elements_0 rfl rfl ?_
  refine r_iload_n C 1 dL_elements_1 rfl rfl ?_
  refine r_iload_n C 2 dL_elements_2 rfl rfl ?_
  refine r_xVc C hgX (ci := 13) ml_L_33 im_X11_element se_X11_element rfl rfl (hws.2.1.k 0 14 rfl) (c_X11_element l hfl G M τ hw α hws hwt hwb had x y) rfl (Nat.le_of_ble_eq_true rfl) ⟨Nat.le_of_ble_eq_true rfl, Nat.le_of_ble_eq_true rfl⟩ ⟨Nat.le_of_ble_eq_true rfl, Nat.le_of_ble_eq_true rfl⟩ dL_elements_3 rfl (fun E_ M_ h_ => ?_) ?_
  · obtain ⟨hC0, rfl, rfl⟩ := h_
    rcases cd3_c (inB x (lN 0) (lN (un τ 26 26)) && decide (x < nI 6)) (inB y (lN 0) (lN 63)) (elB τ x) with hC | hC | hC | hC
    · exact absurd hC hC0
    · refine ⟨7, ?_, fun q_ => ?_⟩
      · rw [hC]; exact ⟨[], ⟨0, 6, 7, 15⟩, [⟨0, 6, 11, 17⟩, ⟨0, 6, 15, 19⟩], htab, (fun z_ hz_ => absurd hz_ (List.not_mem_nil)), by decide, by decide, cl_L_15, hgX.2.2.2.2.2.1.1, rfl⟩
      · skip
        refine r_astore_n C (lo' := [(3, .ref q_), (0, .ref (α 0)), (1, .int x), (2, .int y)]) dL_elements_7 rfl (by decide) rfl ?_
        refine r_bipush C (v := (-2)) dL_elements_8 (by decide) ?_
        refine V.xret ?_
        exact r_iret C hr (⟨by rw [hC]; rfl, by rw [if_neg hC0]; exact (OW.cl hw hF ⟨hws, hwt, hwb⟩).1, (OW.cl hw hF ⟨hws, hwt, hwb⟩).2⟩) (by first | exact Nat.zero_le _ | decide) (by first | exact Nat.zero_le _ | decide) dL_elements_10
    · refine ⟨11, ?_, fun q_ => ?_⟩
      · rw [hC]; exact ⟨[⟨0, 6, 7, 15⟩], ⟨0, 6, 11, 17⟩, [⟨0, 6, 15, 19⟩], htab, (fun z_ hz_ => by rcases List.mem_cons.mp hz_ with rfl | hz_; exact ⟨by decide, _, cl_L_15, hgX.2.2.2.2.2.1.2.2.2.2.1 ("java/lang/IllegalArgumentException", "java/lang/IndexOutOfBoundsException") (by decide)⟩; exact absurd hz_ (List.not_mem_nil)), by decide, by decide, cl_L_17, hgX.2.2.2.2.2.1.2.1, rfl⟩
      · skip
        refine r_astore_n C (lo' := [(3, .ref q_), (0, .ref (α 0)), (1, .int x), (2, .int y)]) dL_elements_11 rfl (by decide) rfl ?_
        refine r_bipush C (v := (-3)) dL_elements_12 (by decide) ?_
        refine V.xret ?_
        exact r_iret C hr (⟨by rw [hC]; rfl, by rw [if_neg hC0]; exact (OW.cl hw hF ⟨hws, hwt, hwb⟩).1, (OW.cl hw hF ⟨hws, hwt, hwb⟩).2⟩) (by first | exact Nat.zero_le _ | decide) (by first | exact Nat.zero_le _ | decide) dL_elements_14
    · refine ⟨15, ?_, fun q_ => ?_⟩
      · rw [hC]; exact ⟨[⟨0, 6, 7, 15⟩, ⟨0, 6, 11, 17⟩], ⟨0, 6, 15, 19⟩, [], htab, (fun z_ hz_ => by rcases List.mem_cons.mp hz_ with rfl | hz_; exact ⟨by decide, _, cl_L_15, hgX.2.2.2.2.2.1.2.2.2.2.1 ("java/lang/IllegalStateException", "java/lang/IndexOutOfBoundsException") (by decide)⟩; rcases List.mem_cons.mp hz_ with rfl | hz_; exact ⟨by decide, _, cl_L_17, hgX.2.2.2.2.2.1.2.2.2.2.1 ("java/lang/IllegalStateException", "java/lang/IllegalArgumentException") (by decide)⟩; exact absurd hz_ (List.not_mem_nil)), by decide, by decide, cl_L_19, hgX.2.2.2.2.2.1.2.2.1, rfl⟩
      · skip
        refine r_astore_n C (lo' := [(3, .ref q_), (0, .ref (α 0)), (1, .int x), (2, .int y)]) dL_elements_15 rfl (by decide) rfl ?_
        refine r_bipush C (v := (-4)) dL_elements_16 (by decide) ?_
        refine V.xret ?_
        exact r_iret C hr (⟨by rw [hC]; rfl, by rw [if_neg hC0]; exact (OW.cl hw hF ⟨hws, hwt, hwb⟩).1, (OW.cl hw hF ⟨hws, hwt, hwb⟩).2⟩) (by first | exact Nat.zero_le _ | decide) (by first | exact Nat.zero_le _ | decide) dL_elements_18
  rintro _ My ⟨hC, rfl, be, hWD, hb0, hCF, hXO⟩
  refine V.eSt (st' := [.int (nI (un τ 26 26 + (if x.toNatClampNeg = un τ 26 26 then 1 else 0)))]) rfl ?_
  refine V.xret ?_
  exact r_iret C hr (⟨by rw [if_pos hC], by rw [if_pos hC]; exact (OW.of hF hWD hb0 hCF hXO).1, (OW.of hF hWD hb0 hCF hXO).2⟩) (by first | exact Nat.zero_le _ | decide) (by first | exact Nat.zero_le _ | decide) dL_elements_6
set_option maxHeartbeats 1000000 in
set_option maxRecDepth 100000 in
theorem c_L_brackets (l : Launch) (hfl : l.flags = flags0) (G : gW) (M : Mem) (τ : Mu) (hw : WF τ) (q : Nat) (F : Nat → Prop) (hO : OW τ G q F M) (had : ∀ p, p < 6 → AD τ p) (x y z t n : Int32) : CH l yL_brackets cL_brackets 7 (some .int) [(0, 11, 12, 15), (0, 11, 17, 17), (0, 11, 22, 19)] 8 3 18 128 G M [.ref q, .int x, .int y, .int z, .int t, .int n] (fun v M' => WPo τ G q F M (cd3 (rng x 3 && rng z 24) (inB y (lN 0) (lN 1) && inB t (lN 1) (lN 1000000000) && inB n (lN 0) (lN 900)) (brB τ (brI x y z t n) t)) (sI (sI (sI τ 34 (4 * (brI x y z t n) + un τ 33 (brI x y z t n)) t) 35 (4 * (brI x y z t n) + un τ 33 (brI x y z t n)) n) 33 (brI x y z t n) (nI (un τ 33 (brI x y z t n) + 1))) (.int (nI (un τ 33 (brI x y z t n) + 1))) [.int (-2), .int (-3), .int (-4)] v M') := by
  obtain ⟨α, ⟨hws, hwt, hwb⟩, rfl, hF⟩ := hO
  refine CH.of hfl rfl (Nat.le_of_ble_eq_true rfl) ?_
  intro pp ee ss mm ar bw mt cd C hgX hr htab
  refine V.eLo (lo' := [(0, .ref (α 0)), (1, .int x), (2, .int y), (3, .int z), (4, .int t), (5, .int n)]) rfl ?_
  refine r_aload_n C 0 dL_brackets_0 rfl rfl ?_
  refine r_iload_n C 1 dL_brackets_1 rfl rfl ?_
  refine r_iload_n C 2 dL_brackets_2 rfl rfl ?_
  refine r_iload_n C 3 dL_brackets_3 rfl rfl ?_
  refine r_iload C 4 dL_brackets_4 rfl ?_
  refine r_iload C 5 dL_brackets_6 rfl ?_
  refine r_xVc C hgX (ci := 13) ml_L_36 im_X11_bracket se_X11_bracket rfl rfl (hws.2.1.k 0 14 rfl) (c_X11_bracket l hfl G M τ hw α hws hwt hwb had x y z t n) rfl (Nat.le_of_ble_eq_true rfl) ⟨Nat.le_of_ble_eq_true rfl, Nat.le_of_ble_eq_true rfl⟩ ⟨Nat.le_of_ble_eq_true rfl, Nat.le_of_ble_eq_true rfl⟩ dL_brackets_8 rfl (fun E_ M_ h_ => ?_) ?_
  · obtain ⟨hC0, rfl, rfl⟩ := h_
    rcases cd3_c (rng x 3 && rng z 24) (inB y (lN 0) (lN 1) && inB t (lN 1) (lN 1000000000) && inB n (lN 0) (lN 900)) (brB τ (brI x y z t n) t) with hC | hC | hC | hC
    · exact absurd hC hC0
    · refine ⟨12, ?_, fun q_ => ?_⟩
      · rw [hC]; exact ⟨[], ⟨0, 11, 12, 15⟩, [⟨0, 11, 17, 17⟩, ⟨0, 11, 22, 19⟩], htab, (fun z_ hz_ => absurd hz_ (List.not_mem_nil)), by decide, by decide, cl_L_15, hgX.2.2.2.2.2.1.1, rfl⟩
      · skip
        refine r_astore C (lo' := [(6, .ref q_), (0, .ref (α 0)), (1, .int x), (2, .int y), (3, .int z), (4, .int t), (5, .int n)]) dL_brackets_12 (by decide) rfl ?_
        refine r_bipush C (v := (-2)) dL_brackets_14 (by decide) ?_
        refine V.xret ?_
        exact r_iret C hr (⟨by rw [hC]; rfl, by rw [if_neg hC0]; exact (OW.cl hw hF ⟨hws, hwt, hwb⟩).1, (OW.cl hw hF ⟨hws, hwt, hwb⟩).2⟩) (by first | exact Nat.zero_le _ | decide) (by first | exact Nat.zero_le _ | decide) dL_brackets_16
    · refine ⟨17, ?_, fun q_ => ?_⟩
      · rw [hC]; exact ⟨[⟨0, 11, 12, 15⟩], ⟨0, 11, 17, 17⟩, [⟨0, 11, 22, 19⟩], htab, (fun z_ hz_ => by rcases List.mem_cons.mp hz_ with rfl | hz_; exact ⟨by decide, _, cl_L_15, hgX.2.2.2.2.2.1.2.2.2.2.1 ("java/lang/IllegalArgumentException", "java/lang/IndexOutOfBoundsException") (by decide)⟩; exact absurd hz_ (List.not_mem_nil)), by decide, by decide, cl_L_17, hgX.2.2.2.2.2.1.2.1, rfl⟩
      · skip
        refine r_astore C (lo' := [(6, .ref q_), (0, .ref (α 0)), (1, .int x), (2, .int y), (3, .int z), (4, .int t), (5, .int n)]) dL_brackets_17 (by decide) rfl ?_
        refine r_bipush C (v := (-3)) dL_brackets_19 (by decide) ?_
        refine V.xret ?_
        exact r_iret C hr (⟨by rw [hC]; rfl, by rw [if_neg hC0]; exact (OW.cl hw hF ⟨hws, hwt, hwb⟩).1, (OW.cl hw hF ⟨hws, hwt, hwb⟩).2⟩) (by first | exact Nat.zero_le _ | decide) (by first | exact Nat.zero_le _ | decide) dL_brackets_21
    · refine ⟨22, ?_, fun q_ => ?_⟩
      · rw [hC]; exact ⟨[⟨0, 11, 12, 15⟩, ⟨0, 11, 17, 17⟩], ⟨0, 11, 22, 19⟩, [], htab, (fun z_ hz_ => by rcases List.mem_cons.mp hz_ with rfl | hz_; exact ⟨by decide, _, cl_L_15, hgX.2.2.2.2.2.1.2.2.2.2.1 ("java/lang/IllegalStateException", "java/lang/IndexOutOfBoundsException") (by decide)⟩; rcases List.mem_cons.mp hz_ with rfl | hz_; exact ⟨by decide, _, cl_L_17, hgX.2.2.2.2.2.1.2.2.2.2.1 ("java/lang/IllegalStateException", "java/lang/IllegalArgumentException") (by decide)⟩; exact absurd hz_ (List.not_mem_nil)), by decide, by decide, cl_L_19, hgX.2.2.2.2.2.1.2.2.1, rfl⟩
      · skip
        refine r_astore C (lo' := [(6, .ref q_), (0, .ref (α 0)), (1, .int x), (2, .int y), (3, .int z), (4, .int t), (5, .int n)]) dL_brackets_22 (by decide) rfl ?_
        refine r_bipush C (v := (-4)) dL_brackets_24 (by decide) ?_
        refine V.xret ?_
        exact r_iret C hr (⟨by rw [hC]; rfl, by rw [if_neg hC0]; exact (OW.cl hw hF ⟨hws, hwt, hwb⟩).1, (OW.cl hw hF ⟨hws, hwt, hwb⟩).2⟩) (by first | exact Nat.zero_le _ | decide) (by first | exact Nat.zero_le _ | decide) dL_brackets_26
  rintro _ My ⟨hC, rfl, be, hWD, hb0, hCF, hXO⟩
  refine V.eSt (st' := [.int (nI (un τ 33 (brI x y z t n) + 1))]) rfl ?_
  refine V.xret ?_
  exact r_iret C hr (⟨by rw [if_pos hC], by rw [if_pos hC]; exact (OW.of hF hWD hb0 hCF hXO).1, (OW.of hF hWD hb0 hCF hXO).2⟩) (by first | exact Nat.zero_le _ | decide) (by first | exact Nat.zero_le _ | decide) dL_brackets_11
set_option maxHeartbeats 1000000 in
set_option maxRecDepth 100000 in
theorem c_L_garnishes (l : Launch) (hfl : l.flags = flags0) (G : gW) (M : Mem) (τ : Mu) (hw : WF τ) (q : Nat) (F : Nat → Prop) (hO : OW τ G q F M) (had : ∀ p, p < 6 → AD τ p) (x y z t n u : Int32) : CH l yL_garnishes cL_garnishes 8 (some .int) [(0, 13, 14, 15), (0, 13, 19, 17), (0, 13, 24, 19)] 8 8 655 263 G M [.ref q, .int x, .int y, .int z, .int t, .int n, .int u] (fun v M' => WPo τ G q F M (cd3 (rng x 6 && rng y 24) (inB z (lN 0) (lN 9) && inB t (lN 1) (lN 100000000) && inB n (lN 1) (lN 1000) && inB u (lN 0) (lN 100000000)) (decide (un τ 44 44 ≠ 6))) (sI (sI (sI (sI (sI (sI (sI τ 38 (un τ 44 44) x) 39 (un τ 44 44) y) 40 (un τ 44 44) z) 41 (un τ 44 44) t) 42 (un τ 44 44) n) 43 (un τ 44 44) u) 44 44 (nI (un τ 44 44 + 1))) (.int (nI (un τ 44 44))) [.int (-2), .int (-3), .int (-4)] v M') := by
  obtain ⟨α, ⟨hws, hwt, hwb⟩, rfl, hF⟩ := hO
  refine CH.of hfl rfl (Nat.le_of_ble_eq_true rfl) ?_
  intro pp ee ss mm ar bw mt cd C hgX hr htab
  refine V.eLo (lo' := [(0, .ref (α 0)), (1, .int x), (2, .int y), (3, .int z), (4, .int t), (5, .int n), (6, .int u)]) rfl ?_
  refine r_aload_n C 0 dL_garnishes_0 rfl rfl ?_
  refine r_iload_n C 1 dL_garnishes_1 rfl rfl ?_
  refine r_iload_n C 2 dL_garnishes_2 rfl rfl ?_
  refine r_iload_n C 3 dL_garnishes_3 rfl rfl ?_
  refine r_iload C 4 dL_garnishes_4 rfl ?_
  refine r_iload C 5 dL_garnishes_6 rfl ?_
  refine r_iload C 6 dL_garnishes_8 rfl ?_
  refine r_xVc C hgX (ci := 13) ml_L_40 im_X11_garnish se_X11_garnish rfl rfl (hws.2.1.k 0 14 rfl) (c_X11_garnish l hfl G M τ hw α hws hwt hwb had x y z t n u) rfl (Nat.le_of_ble_eq_true rfl) ⟨Nat.le_of_ble_eq_true rfl, Nat.le_of_ble_eq_true rfl⟩ ⟨Nat.le_of_ble_eq_true rfl, Nat.le_of_ble_eq_true rfl⟩ dL_garnishes_10 rfl (fun E_ M_ h_ => ?_) ?_
  · obtain ⟨hC0, rfl, rfl⟩ := h_
    rcases cd3_c (rng x 6 && rng y 24) (inB z (lN 0) (lN 9) && inB t (lN 1) (lN 100000000) && inB n (lN 1) (lN 1000) && inB u (lN 0) (lN 100000000)) (decide (un τ 44 44 ≠ 6)) with hC | hC | hC | hC
    · exact absurd hC hC0
    · refine ⟨14, ?_, fun q_ => ?_⟩
      · rw [hC]; exact ⟨[], ⟨0, 13, 14, 15⟩, [⟨0, 13, 19, 17⟩, ⟨0, 13, 24, 19⟩], htab, (fun z_ hz_ => absurd hz_ (List.not_mem_nil)), by decide, by decide, cl_L_15, hgX.2.2.2.2.2.1.1, rfl⟩
      · skip
        refine r_astore C (lo' := [(7, .ref q_), (0, .ref (α 0)), (1, .int x), (2, .int y), (3, .int z), (4, .int t), (5, .int n), (6, .int u)]) dL_garnishes_14 (by decide) rfl ?_
        refine r_bipush C (v := (-2)) dL_garnishes_16 (by decide) ?_
        refine V.xret ?_
        exact r_iret C hr (⟨by rw [hC]; rfl, by rw [if_neg hC0]; exact (OW.cl hw hF ⟨hws, hwt, hwb⟩).1, (OW.cl hw hF ⟨hws, hwt, hwb⟩).2⟩) (by first | exact Nat.zero_le _ | decide) (by first | exact Nat.zero_le _ | decide) dL_garnishes_18
    · refine ⟨19, ?_, fun q_ => ?_⟩
      · rw [hC]; exact ⟨[⟨0, 13, 14, 15⟩], ⟨0, 13, 19, 17⟩, [⟨0, 13, 24, 19⟩], htab, (fun z_ hz_ => by rcases List.mem_cons.mp hz_ with rfl | hz_; exact ⟨by decide, _, cl_L_15, hgX.2.2.2.2.2.1.2.2.2.2.1 ("java/lang/IllegalArgumentException", "java/lang/IndexOutOfBoundsException") (by decide)⟩; exact absurd hz_ (List.not_mem_nil)), by decide, by decide, cl_L_17, hgX.2.2.2.2.2.1.2.1, rfl⟩
      · skip
        refine r_astore C (lo' := [(7, .ref q_), (0, .ref (α 0)), (1, .int x), (2, .int y), (3, .int z), (4, .int t), (5, .int n), (6, .int u)]) dL_garnishes_19 (by decide) rfl ?_
        refine r_bipush C (v := (-3)) dL_garnishes_21 (by decide) ?_
        refine V.xret ?_
        exact r_iret C hr (⟨by rw [hC]; rfl, by rw [if_neg hC0]; exact (OW.cl hw hF ⟨hws, hwt, hwb⟩).1, (OW.cl hw hF ⟨hws, hwt, hwb⟩).2⟩) (by first | exact Nat.zero_le _ | decide) (by first | exact Nat.zero_le _ | decide) dL_garnishes_23
    · refine ⟨24, ?_, fun q_ => ?_⟩
      · rw [hC]; exact ⟨[⟨0, 13, 14, 15⟩, ⟨0, 13, 19, 17⟩], ⟨0, 13, 24, 19⟩, [], htab, (fun z_ hz_ => by rcases List.mem_cons.mp hz_ with rfl | hz_; exact ⟨by decide, _, cl_L_15, hgX.2.2.2.2.2.1.2.2.2.2.1 ("java/lang/IllegalStateException", "java/lang/IndexOutOfBoundsException") (by decide)⟩; rcases List.mem_cons.mp hz_ with rfl | hz_; exact ⟨by decide, _, cl_L_17, hgX.2.2.2.2.2.1.2.2.2.2.1 ("java/lang/IllegalStateException", "java/lang/IllegalArgumentException") (by decide)⟩; exact absurd hz_ (List.not_mem_nil)), by decide, by decide, cl_L_19, hgX.2.2.2.2.2.1.2.2.1, rfl⟩
      · skip
        refine r_astore C (lo' := [(7, .ref q_), (0, .ref (α 0)), (1, .int x), (2, .int y), (3, .int z), (4, .int t), (5, .int n), (6, .int u)]) dL_garnishes_24 (by decide) rfl ?_
        refine r_bipush C (v := (-4)) dL_garnishes_26 (by decide) ?_
        refine V.xret ?_
        exact r_iret C hr (⟨by rw [hC]; rfl, by rw [if_neg hC0]; exact (OW.cl hw hF ⟨hws, hwt, hwb⟩).1, (OW.cl hw hF ⟨hws, hwt, hwb⟩).2⟩) (by first | exact Nat.zero_le _ | decide) (by first | exact Nat.zero_le _ | decide) dL_garnishes_28
  rintro _ My ⟨hC, rfl, be, hWD, hb0, hCF, hXO⟩
  refine V.eSt (st' := [.int (nI (un τ 44 44))]) rfl ?_
  refine V.xret ?_
  exact r_iret C hr (⟨by rw [if_pos hC], by rw [if_pos hC]; exact (OW.of hF hWD hb0 hCF hXO).1, (OW.of hF hWD hb0 hCF hXO).2⟩) (by first | exact Nat.zero_le _ | decide) (by first | exact Nat.zero_le _ | decide) dL_garnishes_13
set_option maxHeartbeats 1000000 in
set_option maxRecDepth 100000 in
theorem c_L_advances (l : Launch) (hfl : l.flags = flags0) (G : gW) (M : Mem) (τ : Mu) (hw : WF τ) (q : Nat) (F : Nat → Prop) (hO : OW τ G q F M) (had : ∀ p, p < 6 → AD τ p) (x y : Int32) : CH l yL_advances cL_advances 4 (some .long) [(0, 6, 7, 15), (0, 6, 12, 17), (0, 6, 17, 19)] 8 3 18 125 G M [.ref q, .int x, .int y] (fun v M' => WPo τ G q F M (cd3 (rng x 6) (inB y (lN 1) (lN 1000000)) (decide (un τ 46 46 ≠ 24))) (sL τ 45 (24 * x.toNatClampNeg + un τ 46 46) (τ.2 45 (24 * x.toNatClampNeg + un τ 46 46) + y.toInt64)) (.long (sumL (fun m => (sL τ 45 (24 * x.toNatClampNeg + un τ 46 46) (τ.2 45 (24 * x.toNatClampNeg + un τ 46 46) + y.toInt64)).2 45 (24 * x.toNatClampNeg + m)) 24)) [.long (-2), .long (-3), .long (-4)] v M') := by
  obtain ⟨α, ⟨hws, hwt, hwb⟩, rfl, hF⟩ := hO
  refine CH.of hfl rfl (Nat.le_of_ble_eq_true rfl) ?_
  intro pp ee ss mm ar bw mt cd C hgX hr htab
  refine V.eLo (lo' := [(0, .ref (α 0)), (1, .int x), (2, .int y)]) rfl ?_
  refine r_aload_n C 0 dL_advances_0 rfl rfl ?_
  refine r_iload_n C 1 dL_advances_1 rfl rfl ?_
  refine r_iload_n C 2 dL_advances_2 rfl rfl ?_
  refine r_xVc C hgX (ci := 13) ml_L_44 im_X11_advance se_X11_advance rfl rfl (hws.2.1.k 0 14 rfl) (c_X11_advance l hfl G M τ hw α hws hwt hwb had x y) rfl (Nat.le_of_ble_eq_true rfl) ⟨Nat.le_of_ble_eq_true rfl, Nat.le_of_ble_eq_true rfl⟩ ⟨Nat.le_of_ble_eq_true rfl, Nat.le_of_ble_eq_true rfl⟩ dL_advances_3 rfl (fun E_ M_ h_ => ?_) ?_
  · obtain ⟨hC0, rfl, rfl⟩ := h_
    rcases cd3_c (rng x 6) (inB y (lN 1) (lN 1000000)) (decide (un τ 46 46 ≠ 24)) with hC | hC | hC | hC
    · exact absurd hC hC0
    · refine ⟨7, ?_, fun q_ => ?_⟩
      · rw [hC]; exact ⟨[], ⟨0, 6, 7, 15⟩, [⟨0, 6, 12, 17⟩, ⟨0, 6, 17, 19⟩], htab, (fun z_ hz_ => absurd hz_ (List.not_mem_nil)), by decide, by decide, cl_L_15, hgX.2.2.2.2.2.1.1, rfl⟩
      · skip
        refine r_astore_n C (lo' := [(3, .ref q_), (0, .ref (α 0)), (1, .int x), (2, .int y)]) dL_advances_7 rfl (by decide) rfl ?_
        refine r_ldc2 C (v := (-2)) kl_L_48 dL_advances_8 ?_
        refine V.xret ?_
        exact r_lret C hr (⟨by rw [hC]; rfl, by rw [if_neg hC0]; exact (OW.cl hw hF ⟨hws, hwt, hwb⟩).1, (OW.cl hw hF ⟨hws, hwt, hwb⟩).2⟩) (by first | exact Nat.zero_le _ | decide) (by first | exact Nat.zero_le _ | decide) dL_advances_11
    · refine ⟨12, ?_, fun q_ => ?_⟩
      · rw [hC]; exact ⟨[⟨0, 6, 7, 15⟩], ⟨0, 6, 12, 17⟩, [⟨0, 6, 17, 19⟩], htab, (fun z_ hz_ => by rcases List.mem_cons.mp hz_ with rfl | hz_; exact ⟨by decide, _, cl_L_15, hgX.2.2.2.2.2.1.2.2.2.2.1 ("java/lang/IllegalArgumentException", "java/lang/IndexOutOfBoundsException") (by decide)⟩; exact absurd hz_ (List.not_mem_nil)), by decide, by decide, cl_L_17, hgX.2.2.2.2.2.1.2.1, rfl⟩
      · skip
        refine r_astore_n C (lo' := [(3, .ref q_), (0, .ref (α 0)), (1, .int x), (2, .int y)]) dL_advances_12 rfl (by decide) rfl ?_
        refine r_ldc2 C (v := (-3)) kl_L_50 dL_advances_13 ?_
        refine V.xret ?_
        exact r_lret C hr (⟨by rw [hC]; rfl, by rw [if_neg hC0]; exact (OW.cl hw hF ⟨hws, hwt, hwb⟩).1, (OW.cl hw hF ⟨hws, hwt, hwb⟩).2⟩) (by first | exact Nat.zero_le _ | decide) (by first | exact Nat.zero_le _ | decide) dL_advances_16
    · refine ⟨17, ?_, fun q_ => ?_⟩
      · rw [hC]; exact ⟨[⟨0, 6, 7, 15⟩, ⟨0, 6, 12, 17⟩], ⟨0, 6, 17, 19⟩, [], htab, (fun z_ hz_ => by rcases List.mem_cons.mp hz_ with rfl | hz_; exact ⟨by decide, _, cl_L_15, hgX.2.2.2.2.2.1.2.2.2.2.1 ("java/lang/IllegalStateException", "java/lang/IndexOutOfBoundsException") (by decide)⟩; rcases List.mem_cons.mp hz_ with rfl | hz_; exact ⟨by decide, _, cl_L_17, hgX.2.2.2.2.2.1.2.2.2.2.1 ("java/lang/IllegalStateException", "java/lang/IllegalArgumentException") (by decide)⟩; exact absurd hz_ (List.not_mem_nil)), by decide, by decide, cl_L_19, hgX.2.2.2.2.2.1.2.2.1, rfl⟩
      · skip
        refine r_astore_n C (lo' := [(3, .ref q_), (0, .ref (α 0)), (1, .int x), (2, .int y)]) dL_advances_17 rfl (by decide) rfl ?_
        refine r_ldc2 C (v := (-4)) kl_L_52 dL_advances_18 ?_
        refine V.xret ?_
        exact r_lret C hr (⟨by rw [hC]; rfl, by rw [if_neg hC0]; exact (OW.cl hw hF ⟨hws, hwt, hwb⟩).1, (OW.cl hw hF ⟨hws, hwt, hwb⟩).2⟩) (by first | exact Nat.zero_le _ | decide) (by first | exact Nat.zero_le _ | decide) dL_advances_21
  rintro _ My ⟨hC, rfl, be, hWD, hb0, hCF, hXO⟩
  refine V.eSt (st' := [.long (sumL (fun m => (sL τ 45 (24 * x.toNatClampNeg + un τ 46 46) (τ.2 45 (24 * x.toNatClampNeg + un τ 46 46) + y.toInt64)).2 45 (24 * x.toNatClampNeg + m)) 24)]) rfl ?_
  refine V.xret ?_
  exact r_lret C hr (⟨by rw [if_pos hC], by rw [if_pos hC]; exact (OW.of hF hWD hb0 hCF hXO).1, (OW.of hF hWD hb0 hCF hXO).2⟩) (by first | exact Nat.zero_le _ | decide) (by first | exact Nat.zero_le _ | decide) dL_advances_6
set_option maxHeartbeats 1000000 in
set_option maxRecDepth 100000 in
theorem c_L_back (l : Launch) (hfl : l.flags = flags0) (G : gW) (M : Mem) (τ : Mu) (hw : WF τ) (q : Nat) (F : Nat → Prop) (hO : OW τ G q F M) (had : ∀ p, p < 6 → AD τ p) (x : Int32) : CH l yL_back cL_back 3 (some .long) [(0, 5, 6, 15), (0, 5, 11, 19)] 8 2 12 124 G M [.ref q, .int x] (fun v M' => WPo τ G q F M (cd2 (rng x (un τ 51 51)) (decide (un τ 50 x.toNatClampNeg ≠ 1))) (sI τ 50 x.toNatClampNeg (nI 1)) (.long (τ.2 49 x.toNatClampNeg)) [.long (-2), .long (-4)] v M') := by
  obtain ⟨α, ⟨hws, hwt, hwb⟩, rfl, hF⟩ := hO
  refine CH.of hfl rfl (Nat.le_of_ble_eq_true rfl) ?_
  intro pp ee ss mm ar bw mt cd C hgX hr htab
  refine V.eLo (lo' := [(0, .ref (α 0)), (1, .int x)]) rfl ?_
  refine r_aload_n C 0 dL_back_0 rfl rfl ?_
  refine r_iload_n C 1 dL_back_1 rfl rfl ?_
  refine r_xVc C hgX (ci := 13) ml_L_54 im_X11_comeBack se_X11_comeBack rfl rfl (hws.2.1.k 0 14 rfl) (c_X11_comeBack l hfl G M τ hw α hws hwt hwb had x) rfl (Nat.le_of_ble_eq_true rfl) ⟨Nat.le_of_ble_eq_true rfl, Nat.le_of_ble_eq_true rfl⟩ ⟨Nat.le_of_ble_eq_true rfl, Nat.le_of_ble_eq_true rfl⟩ dL_back_2 rfl (fun E_ M_ h_ => ?_) ?_
  · obtain ⟨hC0, rfl, rfl⟩ := h_
    rcases cd2_c (rng x (un τ 51 51)) (decide (un τ 50 x.toNatClampNeg ≠ 1)) with hC | hC | hC
    · exact absurd hC hC0
    · refine ⟨6, ?_, fun q_ => ?_⟩
      · rw [hC]; exact ⟨[], ⟨0, 5, 6, 15⟩, [⟨0, 5, 11, 19⟩], htab, (fun z_ hz_ => absurd hz_ (List.not_mem_nil)), by decide, by decide, cl_L_15, hgX.2.2.2.2.2.1.1, rfl⟩
      · skip
        refine r_astore_n C (lo' := [(2, .ref q_), (0, .ref (α 0)), (1, .int x)]) dL_back_6 rfl (by decide) rfl ?_
        refine r_ldc2 C (v := (-2)) kl_L_48 dL_back_7 ?_
        refine V.xret ?_
        exact r_lret C hr (⟨by rw [hC]; rfl, by rw [if_neg hC0]; exact (OW.cl hw hF ⟨hws, hwt, hwb⟩).1, (OW.cl hw hF ⟨hws, hwt, hwb⟩).2⟩) (by first | exact Nat.zero_le _ | decide) (by first | exact Nat.zero_le _ | decide) dL_back_10
    · refine ⟨11, ?_, fun q_ => ?_⟩
      · rw [hC]; exact ⟨[⟨0, 5, 6, 15⟩], ⟨0, 5, 11, 19⟩, [], htab, (fun z_ hz_ => by rcases List.mem_cons.mp hz_ with rfl | hz_; exact ⟨by decide, _, cl_L_15, hgX.2.2.2.2.2.1.2.2.2.2.1 ("java/lang/IllegalStateException", "java/lang/IndexOutOfBoundsException") (by decide)⟩; exact absurd hz_ (List.not_mem_nil)), by decide, by decide, cl_L_19, hgX.2.2.2.2.2.1.2.2.1, rfl⟩
      · skip
        refine r_astore_n C (lo' := [(2, .ref q_), (0, .ref (α 0)), (1, .int x)]) dL_back_11 rfl (by decide) rfl ?_
        refine r_ldc2 C (v := (-4)) kl_L_52 dL_back_12 ?_
        refine V.xret ?_
        exact r_lret C hr (⟨by rw [hC]; rfl, by rw [if_neg hC0]; exact (OW.cl hw hF ⟨hws, hwt, hwb⟩).1, (OW.cl hw hF ⟨hws, hwt, hwb⟩).2⟩) (by first | exact Nat.zero_le _ | decide) (by first | exact Nat.zero_le _ | decide) dL_back_15
  rintro _ My ⟨hC, rfl, be, hWD, hb0, hCF, hXO⟩
  refine V.eSt (st' := [.long (τ.2 49 x.toNatClampNeg)]) rfl ?_
  refine V.xret ?_
  exact r_lret C hr (⟨by rw [if_pos hC], by rw [if_pos hC]; exact (OW.of hF hWD hb0 hCF hXO).1, (OW.of hF hWD hb0 hCF hXO).2⟩) (by first | exact Nat.zero_le _ | decide) (by first | exact Nat.zero_le _ | decide) dL_back_5
/-! THE LAW: its own methods with tables, as it names them -/
theorem hl_contracts : HL RL 102 yL_contracts cL_contracts 9 (some .int) [(0, 15, 16, 15), (0, 15, 21, 17), (0, 15, 26, 19)] 8 := ⟨tw_i 354 (by decide +kernel) rfl, tw_i 0 (by decide +kernel) rfl, tw_i 356 (by decide +kernel) rfl, ⟨by decide +kernel, by decide +kernel⟩, by decide +kernel, tw_i 355 (by decide +kernel) rfl⟩
theorem hl_shifts : HL RL 106 yL_shifts cL_shifts 6 (some .int) [(0, 9, 10, 15), (0, 9, 15, 17), (0, 9, 20, 19)] 5 := ⟨tw_i 1252 (by decide +kernel) rfl, tw_i 0 (by decide +kernel) rfl, tw_i 1254 (by decide +kernel) rfl, ⟨by decide +kernel, by decide +kernel⟩, by decide +kernel, tw_i 1253 (by decide +kernel) rfl⟩
theorem hl_leaves : HL RL 110 yL_leaves cL_leaves 4 (some .int) [(0, 14, 15, 15), (0, 14, 19, 19)] 3 := ⟨tw_i 613 (by decide +kernel) rfl, tw_i 0 (by decide +kernel) rfl, tw_i 615 (by decide +kernel) rfl, ⟨by decide +kernel, by decide +kernel⟩, by decide +kernel, tw_i 614 (by decide +kernel) rfl⟩
theorem hl_words : HL RL 114 yL_words cL_words 4 (some .int) [(0, 6, 7, 17), (0, 6, 11, 19)] 3 := ⟨tw_i 925 (by decide +kernel) rfl, tw_i 0 (by decide +kernel) rfl, tw_i 927 (by decide +kernel) rfl, ⟨by decide +kernel, by decide +kernel⟩, by decide +kernel, tw_i 926 (by decide +kernel) rfl⟩
theorem hl_elements : HL RL 117 yL_elements cL_elements 4 (some .int) [(0, 6, 7, 15), (0, 6, 11, 17), (0, 6, 15, 19)] 3 := ⟨tw_i 941 (by decide +kernel) rfl, tw_i 0 (by decide +kernel) rfl, tw_i 943 (by decide +kernel) rfl, ⟨by decide +kernel, by decide +kernel⟩, by decide +kernel, tw_i 942 (by decide +kernel) rfl⟩
theorem hl_brackets : HL RL 121 yL_brackets cL_brackets 7 (some .int) [(0, 11, 12, 15), (0, 11, 17, 17), (0, 11, 22, 19)] 6 := ⟨tw_i 1268 (by decide +kernel) rfl, tw_i 0 (by decide +kernel) rfl, tw_i 1270 (by decide +kernel) rfl, ⟨by decide +kernel, by decide +kernel⟩, by decide +kernel, tw_i 1269 (by decide +kernel) rfl⟩
theorem hl_garnishes : HL RL 126 yL_garnishes cL_garnishes 8 (some .int) [(0, 13, 14, 15), (0, 13, 19, 17), (0, 13, 24, 19)] 7 := ⟨tw_i 974 (by decide +kernel) rfl, tw_i 0 (by decide +kernel) rfl, tw_i 976 (by decide +kernel) rfl, ⟨by decide +kernel, by decide +kernel⟩, by decide +kernel, tw_i 975 (by decide +kernel) rfl⟩
theorem hl_advances : HL RL 130 yL_advances cL_advances 4 (some .long) [(0, 6, 7, 15), (0, 6, 12, 17), (0, 6, 17, 19)] 3 := ⟨tw_i 1021 (by decide +kernel) rfl, tw_i 0 (by decide +kernel) rfl, tw_i 1023 (by decide +kernel) rfl, ⟨by decide +kernel, by decide +kernel⟩, by decide +kernel, tw_i 1022 (by decide +kernel) rfl⟩
theorem hl_back : HL RL 134 yL_back cL_back 3 (some .long) [(0, 5, 6, 15), (0, 5, 11, 19)] 2 := ⟨tw_i 1031 (by decide +kernel) rfl, tw_i 0 (by decide +kernel) rfl, tw_i 1033 (by decide +kernel) rfl, ⟨by decide +kernel, by decide +kernel⟩, by decide +kernel, tw_i 1032 (by decide +kernel) rfl⟩
