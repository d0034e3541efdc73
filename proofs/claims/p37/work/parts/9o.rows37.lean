/-! THE LAW: rows for the class's questions; its small methods -/
theorem rng_ok {j n : Nat} (h : j < n) (hj : j < 2 ^ 31) : rng (nI j) n = true := by
  unfold rng
  exact decide_eq_true (by rw [nI_toInt hj]; omega)
theorem inB_ok {j a b : Nat} (h1 : a ≤ j) (h2 : j ≤ b) (hb : b < 2 ^ 31) : inB (nI j) (lN a) (lN b) = true := by
  unfold inB
  refine decide_eq_true ?_
  rw [Int64.le_iff_toInt_le, Int64.le_iff_toInt_le, Int32.toInt_toInt64, pk_lT (by omega), pk_lT (by omega), nI_toInt (by omega)]
  exact ⟨by omega, by omega⟩
theorem an2 {a b : Bool} (h : a = true) (g : b = true) : (a && b) = true := by rw [h, g]; rfl
/-- what low makes of an int -/
def lw0 (v : Int32) : Nat := v.toBitVec.toNat % 2147483648
def lwN (v : Int32) (k : Nat) : Nat := lw0 v % k
theorem lw0_lt (v : Int32) : lw0 v < 2147483648 := Nat.mod_lt _ (by decide)
theorem lw0_and (v : Int32) : v &&& nI 2147483647 = nI (lw0 v) := by
  apply Int32.toBitVec_inj.mp
  apply BitVec.eq_of_toNat_eq
  rw [Int32.toBitVec_and, BitVec.toNat_and, pk_tn (by decide), pk_tn (by have := lw0_lt v; omega)]
  exact Nat.and_two_pow_sub_one_eq_mod v.toBitVec.toNat 31
theorem lwN_lt {v : Int32} {k : Nat} (h : 0 < k) : lwN v k < k := Nat.mod_lt _ h
section RowsP
variable {p : Program} {l : Launch} {e : Env} {R : Room} {s : State} {m : MethodId} {args : Array Value} {below : List Frame} {meth : Method} {c : Code} {G : gW} {own : String} {cc : ByteArray} {nL : Nat} {M : Mem} {cells slots pc mc0 ms0 : Nat} {lo : List (Nat × Value)} {st : List Value} {Q : State → Prop}
variable {τ : Mu} {q idx : Nat} {F : Nat → Prop}
theorem rq_slip (Cc : Cx p l s m args meth c G own cc nL) (hgX : gX G s s.heap) (hfl : l.flags = flags0) (hw : WF τ) (had : ∀ p, p < 6 → AD τ p) (h : OW τ G q F M) (L : ML own idx RX11 yX11_slip cX11_slip 4 (some .long) 3) {p_ m_ w_ : Nat} (hp : p_ < 6) (hm : m_ < 24) (hw7 : w_ ≤ 7) (hW : (st.map fun v => v.category).sum ≤ 8) (hR : 8 ≤ R.frames ∧ 211 ≤ R.locals) (hf : cells + 2 ≤ R.cells ∧ slots + 12 ≤ R.slots) (hd : decode cc pc = .ok (.invokevirtual idx, 3))
    (kk : ∀ M', OW τ G q F M' → KF F M M' → V p l e R s m args below meth c G Q nL M' (cells + 2) (slots + 12) (pc + 3) lo (.long (slL τ p_ m_ w_) :: st)) : V p l e R s m args below meth c G Q nL M cells slots pc lo (.int (nI w_) :: .int (nI m_) :: .int (nI p_) :: .ref q :: st) := by
  refine r_q Cc hgX h L im_X11_slip se_X11_slip (fun α_ hα => c_X11_slip l hfl G M τ hw α_ hα.1 hα.2.1 hα.2.2 had (nI p_) (nI m_) (nI w_)) (k_2 (an2 (rng_ok hp (by omega)) (rng_ok hm (by omega))) (inB_ok (Nat.zero_le _) hw7 (by decide))) rfl hW ⟨hR.1, hR.2⟩ hf hd rfl (fun M' a b => ?_)
  refine V.eSt (st' := (.long (slL τ p_ m_ w_)) :: st) ?_ (kk M' a b)
  rw [nI_clamp (n := p_) (by omega), nI_clamp (n := m_) (by omega), nI_clamp (n := w_) (by omega)]; rfl
theorem in013 {w : Nat} (h : w = 0 ∨ w = 1 ∨ w = 3) : (decide (nI w = 0) || decide (nI w = nI 1) || decide (nI w = nI 3)) = true := by
  rcases h with rfl | rfl | rfl <;> decide
theorem rq_slipIn (Cc : Cx p l s m args meth c G own cc nL) (hgX : gX G s s.heap) (hfl : l.flags = flags0) (hw : WF τ) (had : ∀ p, p < 6 → AD τ p) (h : OW τ G q F M) (L : ML own idx RX11 yX11_slipIn cX11_slipIn 5 (some .long) 4) {p_ m_ r_ w_ : Nat} (hp : p_ < 6) (hm : m_ < 24) (hr : r_ < 3) (hw3 : w_ = 0 ∨ w_ = 1 ∨ w_ = 3) (hW : (st.map fun v => v.category).sum ≤ 8) (hR : 8 ≤ R.frames ∧ 212 ≤ R.locals) (hf : cells + 2 ≤ R.cells ∧ slots + 12 ≤ R.slots) (hd : decode cc pc = .ok (.invokevirtual idx, 3))
    (kk : ∀ M', OW τ G q F M' → KF F M M' → V p l e R s m args below meth c G Q nL M' (cells + 2) (slots + 12) (pc + 3) lo (.long (inL τ p_ m_ r_ w_) :: st)) : V p l e R s m args below meth c G Q nL M cells slots pc lo (.int (nI w_) :: .int (nI r_) :: .int (nI m_) :: .int (nI p_) :: .ref q :: st) := by
  refine r_q Cc hgX h L im_X11_slipIn se_X11_slipIn (fun α_ hα => c_X11_slipIn l hfl G M τ hw α_ hα.1 hα.2.1 hα.2.2 had (nI p_) (nI m_) (nI r_) (nI w_)) (k_2 (an2 (an2 (rng_ok hp (by omega)) (rng_ok hm (by omega))) (rng_ok hr (by omega))) (in013 hw3)) rfl hW ⟨hR.1, hR.2⟩ hf hd rfl (fun M' a b => ?_)
  refine V.eSt (st' := (.long (inL τ p_ m_ r_ w_)) :: st) ?_ (kk M' a b)
  rw [nI_clamp (n := p_) (by omega), nI_clamp (n := m_) (by omega), nI_clamp (n := r_) (by omega)]; rcases hw3 with rfl | rfl | rfl <;> rfl
theorem rq_takenBy (Cc : Cx p l s m args meth c G own cc nL) (hgX : gX G s s.heap) (hfl : l.flags = flags0) (hw : WF τ) (had : ∀ p, p < 6 → AD τ p) (h : OW τ G q F M) (L : ML own idx RX11 yX11_takenBy cX11_takenBy 4 (some .long) 2) {g_ m_ : Nat} (hg : g_ < un τ 44 44) (hm : m_ < 24) (hW : (st.map fun v => v.category).sum ≤ 8) (hR : 8 ≤ R.frames ∧ 211 ≤ R.locals) (hf : cells + 1 ≤ R.cells ∧ slots + 6 ≤ R.slots) (hd : decode cc pc = .ok (.invokevirtual idx, 3))
    (kk : ∀ M', OW τ G q F M' → KF F M M' → V p l e R s m args below meth c G Q nL M' (cells + 1) (slots + 6) (pc + 3) lo (.long (hadL τ (un τ 38 g_) (m_ + 1) g_) :: st)) : V p l e R s m args below meth c G Q nL M cells slots pc lo (.int (nI m_) :: .int (nI g_) :: .ref q :: st) := by
  have h44 := hw.ng.2
  refine r_q Cc hgX h L im_X11_takenBy se_X11_takenBy (fun α_ hα => c_X11_takenBy l hfl G M τ hw α_ hα.1 hα.2.1 hα.2.2 had (nI g_) (nI m_)) (k_1 (an2 (rng_ok hg (by omega)) (rng_ok hm (by omega)))) rfl hW ⟨hR.1, hR.2⟩ hf hd rfl (fun M' a b => ?_)
  refine V.eSt (st' := (.long (hadL τ (un τ 38 g_) (m_ + 1) g_)) :: st) ?_ (kk M' a b)
  rw [nI_clamp (n := g_) (by omega), nI_clamp (n := m_) (by omega)]; rfl
theorem rq_owed (Cc : Cx p l s m args meth c G own cc nL) (hgX : gX G s s.heap) (hfl : l.flags = flags0) (hw : WF τ) (had : ∀ p, p < 6 → AD τ p) (h : OW τ G q F M) (L : ML own idx RX11 yX11_owed cX11_owed 2 (some .long) 1) {p_ : Nat} (hp : p_ < 6) (hW : (st.map fun v => v.category).sum ≤ 8) (hR : 8 ≤ R.frames ∧ 209 ≤ R.locals) (hf : cells + 1 ≤ R.cells ∧ slots + 6 ≤ R.slots) (hd : decode cc pc = .ok (.invokevirtual idx, 3))
    (kk : ∀ M', OW τ G q F M' → KF F M M' → V p l e R s m args below meth c G Q nL M' (cells + 1) (slots + 6) (pc + 3) lo (.long (pdL τ p_ (sumL (pyL τ p_) ((if un τ 46 46 = 24 then 23 else un τ 46 46) + 1)) (un τ 51 51)) :: st)) : V p l e R s m args below meth c G Q nL M cells slots pc lo (.int (nI p_) :: .ref q :: st) := by
  refine r_q Cc hgX h L im_X11_owed se_X11_owed (fun α_ hα => c_X11_owed l hfl G M τ hw α_ hα.1 hα.2.1 hα.2.2 had (nI p_)) (k_1 (rng_ok hp (by omega))) rfl hW ⟨hR.1, hR.2⟩ hf hd rfl (fun M' a b => ?_)
  refine V.eSt (st' := (.long (pdL τ p_ (sumL (pyL τ p_) ((if un τ 46 46 = 24 then 23 else un τ 46 46) + 1)) (un τ 51 51))) :: st) ?_ (kk M' a b)
  rw [nI_clamp (n := p_) (by omega)]; rfl
theorem rq_leaveLeft (Cc : Cx p l s m args meth c G own cc nL) (hgX : gX G s s.heap) (hfl : l.flags = flags0) (hw : WF τ) (had : ∀ p, p < 6 → AD τ p) (h : OW τ G q F M) (L : ML own idx RX11 yX11_leaveLeft cX11_leaveLeft 3 (some .int) 2) {p_ d_ : Nat} (hp : p_ < 6) (hd_ : d_ < 720) (hW : (st.map fun v => v.category).sum ≤ 8) (hR : 8 ≤ R.frames ∧ 140 ≤ R.locals) (hf : cells + 1 ≤ R.cells ∧ slots + 6 ≤ R.slots) (hd : decode cc pc = .ok (.invokevirtual idx, 3))
    (kk : ∀ M', OW τ G q F M' → KF F M M' → V p l e R s m args below meth c G Q nL M' (cells + 1) (slots + 6) (pc + 3) lo (.int (nI (leftN τ p_ d_)) :: st)) : V p l e R s m args below meth c G Q nL M cells slots pc lo (.int (nI d_) :: .int (nI p_) :: .ref q :: st) := by
  refine r_q Cc hgX h L im_X11_leaveLeft se_X11_leaveLeft (fun α_ hα => c_X11_leaveLeft l hfl G M τ hw α_ hα.1 hα.2.1 hα.2.2 had (nI p_) (nI d_)) (k_1 (an2 (rng_ok hp (by omega)) (rng_ok hd_ (by omega)))) rfl hW ⟨hR.1, hR.2⟩ hf hd rfl (fun M' a b => ?_)
  refine V.eSt (st' := (.int (nI (leftN τ p_ d_))) :: st) ?_ (kk M' a b)
  rw [nI_clamp (n := p_) (by omega), nI_clamp (n := d_) (by omega)]; rfl
theorem rq_filed (Cc : Cx p l s m args meth c G own cc nL) (hgX : gX G s s.heap) (hfl : l.flags = flags0) (hw : WF τ) (had : ∀ p, p < 6 → AD τ p) (h : OW τ G q F M) (L : ML own idx RX11 yX11_filed cX11_filed 4 (some .long) 3) {p_ m_ : Nat} (hp : p_ < 3) (hm : m_ < 24) (hW : (st.map fun v => v.category).sum ≤ 8) (hR : 8 ≤ R.frames ∧ 125 ≤ R.locals) (hf : cells + 1 ≤ R.cells ∧ slots + 6 ≤ R.slots) (hd : decode cc pc = .ok (.invokevirtual idx, 3))
    (kk : ∀ M', OW τ G q F M' → KF F M M' → V p l e R s m args below meth c G Q nL M' (cells + 1) (slots + 6) (pc + 3) lo (.long (τ.2 52 (24 * p_ + m_)) :: st)) : V p l e R s m args below meth c G Q nL M cells slots pc lo (.int (bI true) :: .int (nI m_) :: .int (nI p_) :: .ref q :: st) := by
  refine r_q Cc hgX h L im_X11_filed se_X11_filed (fun α_ hα => c_X11_filed l hfl G M τ hw α_ hα.1 hα.2.1 hα.2.2 had (nI p_) (nI m_) true) (k_1 (an2 (rng_ok hp (by omega)) (rng_ok hm (by omega)))) rfl hW ⟨hR.1, hR.2⟩ hf hd rfl (fun M' a b => ?_)
  refine V.eSt (st' := (.long (τ.2 52 (24 * p_ + m_))) :: st) ?_ (kk M' a b)
  rw [nI_clamp (n := p_) (by omega), nI_clamp (n := m_) (by omega)]; rfl
theorem rq_payment (Cc : Cx p l s m args meth c G own cc nL) (hgX : gX G s s.heap) (hfl : l.flags = flags0) (hw : WF τ) (had : ∀ p, p < 6 → AD τ p) (h : OW τ G q F M) (L : ML own idx RX11 yX11_payment cX11_payment 4 (some .long) 2) {k_ w_ : Nat} (hk : k_ < un τ 51 51) (hw3 : w_ ≤ 3) (hW : (st.map fun v => v.category).sum ≤ 8) (hR : 8 ≤ R.frames ∧ 125 ≤ R.locals) (hf : cells + 2 ≤ R.cells ∧ slots + 12 ≤ R.slots) (hd : decode cc pc = .ok (.invokevirtual idx, 3))
    (kk : ∀ M', OW τ G q F M' → KF F M M' → V p l e R s m args below meth c G Q nL M' (cells + 2) (slots + 12) (pc + 3) lo (.long (pmL τ k_ w_) :: st)) : V p l e R s m args below meth c G Q nL M cells slots pc lo (.int (nI w_) :: .int (nI k_) :: .ref q :: st) := by
  have h51 := hw.np.2
  refine r_q Cc hgX h L im_X11_payment se_X11_payment (fun α_ hα => c_X11_payment l hfl G M τ hw α_ hα.1 hα.2.1 hα.2.2 had (nI k_) (nI w_)) (k_2 (rng_ok hk (by omega)) (inB_ok (Nat.zero_le _) hw3 (by decide))) rfl hW ⟨hR.1, hR.2⟩ hf hd rfl (fun M' a b => ?_)
  refine V.eSt (st' := (.long (pmL τ k_ w_)) :: st) ?_ (kk M' a b)
  rw [nI_clamp (n := k_) (by omega), nI_clamp (n := w_) (by omega)]; rfl
theorem rq_yearTax (Cc : Cx p l s m args meth c G own cc nL) (hgX : gX G s s.heap) (hfl : l.flags = flags0) (hw : WF τ) (had : ∀ p, p < 6 → AD τ p) (h : OW τ G q F M) (L : ML own idx RX11 yX11_yearTax cX11_yearTax 6 (some .long) 4) {p_ r_ m_ a_ : Nat} (hp : p_ < 3) (hr : r_ ≤ 1) (hm : m_ < 24) (ha : a_ ≤ 10000000000) (hW : (st.map fun v => v.category).sum ≤ 8) (hR : 8 ≤ R.frames ∧ 127 ≤ R.locals) (hf : cells + 2 ≤ R.cells ∧ slots + 12 ≤ R.slots) (hd : decode cc pc = .ok (.invokevirtual idx, 3))
    (kk : ∀ M', OW τ G q F M' → KF F M M' → V p l e R s m args below meth c G Q nL M' (cells + 2) (slots + 12) (pc + 3) lo (.long (yearL τ (48 * p_ + 24 * r_) m_ (lN a_)) :: st)) : V p l e R s m args below meth c G Q nL M cells slots pc lo (.long (lN a_) :: .int (nI m_) :: .int (nI r_) :: .int (nI p_) :: .ref q :: st) := by
  refine r_q Cc hgX h L im_X11_yearTax se_X11_yearTax (fun α_ hα => c_X11_yearTax l hfl G M τ hw α_ hα.1 hα.2.1 hα.2.2 had (nI p_) (nI r_) (nI m_) (lN a_)) (k_2 (an2 (rng_ok hp (by omega)) (rng_ok hm (by omega))) (an2 (inB_ok (Nat.zero_le _) hr (by decide)) (decide_eq_true ⟨(pk_lLE (by decide) (by omega)).mpr (Nat.zero_le _), (pk_lLE (by omega) (by decide)).mpr ha⟩))) rfl hW ⟨hR.1, hR.2⟩ hf hd rfl (fun M' a b => ?_)
  refine V.eSt (st' := (.long (yearL τ (48 * p_ + 24 * r_) m_ (lN a_))) :: st) ?_ (kk M' a b)
  rw [nI_clamp (n := p_) (by omega), nI_clamp (n := r_) (by omega), nI_clamp (n := m_) (by omega)]; rfl
theorem rq_open (Cc : Cx p l s m args meth c G own cc nL) (hgX : gX G s s.heap) (hfl : l.flags = flags0) (hw : WF τ) (had : ∀ p, p < 6 → AD τ p) (h : OW τ G q F M) (L : ML own idx RX11 yX11_open cX11_open 1 (some .int) 0)  (hW : (st.map fun v => v.category).sum ≤ 8) (hR : 1 ≤ R.frames ∧ 20 ≤ R.locals) (hf : cells + 0 ≤ R.cells ∧ slots + 0 ≤ R.slots) (hd : decode cc pc = .ok (.invokevirtual idx, 3))
    (kk : ∀ M', OW τ G q F M' → KF F M M' → V p l e R s m args below meth c G Q nL M' (cells + 0) (slots + 0) (pc + 3) lo (.int (nI (un τ 46 46)) :: st)) : V p l e R s m args below meth c G Q nL M cells slots pc lo (.ref q :: st) := by
  refine r_qc Cc hgX h L im_X11_open se_X11_open (fun α_ hα => c_X11_open l hfl G M τ hw α_ hα.1 hα.2.1 hα.2.2 had) rfl hW ⟨hR.1, hR.2⟩ hf hd rfl (fun M' a b => ?_)
  refine V.eSt (st' := (.int (nI (un τ 46 46))) :: st) ?_ (kk M' a b)
  rfl
theorem rq_payments (Cc : Cx p l s m args meth c G own cc nL) (hgX : gX G s s.heap) (hfl : l.flags = flags0) (hw : WF τ) (had : ∀ p, p < 6 → AD τ p) (h : OW τ G q F M) (L : ML own idx RX11 yX11_payments cX11_payments 1 (some .int) 0)  (hW : (st.map fun v => v.category).sum ≤ 8) (hR : 2 ≤ R.frames ∧ 40 ≤ R.locals) (hf : cells + 0 ≤ R.cells ∧ slots + 0 ≤ R.slots) (hd : decode cc pc = .ok (.invokevirtual idx, 3))
    (kk : ∀ M', OW τ G q F M' → KF F M M' → V p l e R s m args below meth c G Q nL M' (cells + 0) (slots + 0) (pc + 3) lo (.int (nI (un τ 51 51)) :: st)) : V p l e R s m args below meth c G Q nL M cells slots pc lo (.ref q :: st) := by
  refine r_qc Cc hgX h L im_X11_payments se_X11_payments (fun α_ hα => c_X11_payments l hfl G M τ hw α_ hα.1 hα.2.1 hα.2.2 had) rfl hW ⟨hR.1, hR.2⟩ hf hd rfl (fun M' a b => ?_)
  refine V.eSt (st' := (.int (nI (un τ 51 51))) :: st) ?_ (kk M' a b)
  rfl
end RowsP
set_option maxHeartbeats 1000000 in
set_option maxRecDepth 100000 in
theorem c_L_low (l : Launch) (hfl : l.flags = flags0) (G : gW) (M : Mem) (v : Int32) (k : Nat) (h0 : 0 < k) (hk : k < 2 ^ 31) : CT l yL_low cL_low 2 (some .int) 0 0 0 0 G M [.int v, .int (nI k)] (fun v_ M' => v_ = some (.int (nI (lwN v k))) ∧ M = M') := by
  refine CT.of hfl rfl (Nat.le_of_ble_eq_true rfl) ?_
  intro pp ee ss mm ar bw mt cd C hgX hr hini
  refine V.eLo (lo' := [(0, .int v), (1, .int (nI k))]) rfl ?_
  refine r_iload_n C 0 dL_low_0 rfl rfl ?_
  refine r_ldc C (v := 2147483647) ki_L_8 dL_low_1 ?_
  refine V.ei (y := nI 2147483647) (by decide) ?_
  refine r_iand C dL_low_3 ?_
  refine V.ei (y := nI (lw0 v)) (lw0_and v) ?_
  refine r_iload_n C 1 dL_low_4 rfl rfl ?_
  refine r_iremN C (by have := lw0_lt v; omega) (by exact h0) (by exact hk) dL_low_5 ?_
  exact r_iret C hr (⟨rfl, rfl⟩) (by first | exact Nat.zero_le _ | decide) (by first | exact Nat.zero_le _ | decide) dL_low_6
/-- cell's start: the script lies at b -/
def Kc (G : gW) (M : Mem) (b L : Nat) (xs : Nat → Int32) (av : List Value) : Array Value → State → Prop := va_Pc av (fun U => (va_K (gD G) vwCl (gTys G) U ∧ gRel G M U.heap ∧ gB G ≤ U.heap.size ∧ gX G U U.heap) ∧ va_X b L xs U U.heap)
theorem Kc.blind (G : gW) (M : Mem) (b L : Nat) (xs : Nat → Int32) (av : List Value) : FrameBlind (Kc G M b L xs av) := fun a U g mk q => ⟨q.1, ⟨va_K.moved (u := U) (U := U.calling g mk a) (Vm.Alike.refl U.vm) q.2.1.1, q.2.1.2.1, q.2.1.2.2.1, gX.same (u := U) rfl q.2.1.2.2.2⟩, va_X.moved (u := U) (U := U.calling g mk a) (Vm.Alike.refl U.vm) q.2.2⟩
set_option maxHeartbeats 1000000 in
set_option maxRecDepth 100000 in
theorem c_L_cell (l : Launch) (hfl : l.flags = flags0) (G : gW) (M : Mem) (b L : Nat) (xs : Nat → Int32) (k : Nat) (hL : L ≤ 4096) (hk : k < 4096) (hbA : ¬ gA G b) : Met l yL_cell (Cond.code yL_cell cL_cell 2 (some .int) :: tw_big) ({ frames := 0, cells := 0, slots := 0, locals := 0 } : Room) (Kc G M b L xs [.ref b, .int (nI k)]) (Ke G (fun v M' => ∃ x : Int32, v = some (.int x) ∧ M = M')) 0 0 (gA G) := by
  refine Met.ofW (cc := cL_cell) (maxL := 2) (ret := some .int) rfl rfl ?_
  intro p e s m args below meth c s₁ B hml hv
  obtain ⟨rfl, ⟨hK, hM, hB, hgX⟩, hX⟩ := hv
  have hts := atoms_spec (ws := Cond.code yL_cell cL_cell 2 (some .int) :: tw_big) B.pre
  have hown : s.vm.findClass yL_cell.cls = some m.cls := findClass_of_methodNamed B.named
  have hl := lv_entry ([.ref b, .int (nI k)] : List Value) (n := 2) (Nat.le_of_ble_eq_true rfl)
  have hbl : b < s.heap.size := (Array.getElem?_eq_some_iff.mp hX.choose_spec.1).1
  rw [lg_entry_eq]
  have C : Cx p l s m (#[.ref b, .int (nI k)] : Array Value) meth c G RL cL_cell 2 := ⟨B.exec, B.bytes, hown, fun w hw => hts w (List.mem_cons_of_mem _ hw), hK, hB, B.notSynchronized, hml, hfl⟩
  have hr := B.returns
  refine (?_ : V p l e ({ frames := 0, cells := 0, slots := 0, locals := 0 } : Room) s m (#[.ref b, .int (nI k)] : Array Value) below meth c G (MQ below (Ke G (fun v M' => ∃ x : Int32, v = some (.int x) ∧ M = M')) #[.ref b, .int (nI k)] s 0 0 (gA G)) 2 M 0 0 0 (lv_args 0 [.ref b, .int (nI k)]) []) s.heap [] _ hM va_S.rf hl
  refine V.eLo (lo' := [(0, .ref b), (1, .int (nI k))]) rfl ?_
  refine r_iload_n C 1 dL_cell_0 rfl rfl ?_
  refine r_aload_n C 0 dL_cell_1 rfl rfl ?_
  refine r_slen C hX hbl hbA dL_cell_2 ?_
  refine r_icmp_geN C (t := 12) (by omega) (by omega) dL_cell_3 (by decide) (fun c3 => ?_) (fun c3 => ?_)
  · skip
    refine r_ldc C (v := 2752711) ki_L_7 dL_cell_12 ?_
    refine V.ei (y := nI 2752711) (by decide) ?_
    refine r_iload_n C 1 dL_cell_14 rfl rfl ?_
    refine r_imulN C dL_cell_15 ?_
    refine r_sipush C (v := nI 2111) dL_cell_16 (by decide) ?_
    refine r_iaddN C dL_cell_19 ?_
    exact r_iret C hr (⟨_, rfl, rfl⟩) (by first | exact Nat.zero_le _ | decide) (by first | exact Nat.zero_le _ | decide) dL_cell_20
  · skip
    refine r_aload_n C 0 dL_cell_6 rfl rfl ?_
    refine r_iload_n C 1 dL_cell_7 rfl rfl ?_
    refine r_sld C hX hbl hbA hL (i := k) (by omega) dL_cell_8 ?_
    refine r_goto C (t := 20) dL_cell_9 (by decide) ?_
    exact r_iret C hr (⟨_, rfl, rfl⟩) (by first | exact Nat.zero_le _ | decide) (by first | exact Nat.zero_le _ | decide) dL_cell_20
section RowCell
variable {p : Program} {l : Launch} {e : Env} {R : Room} {s : State} {m : MethodId} {args : Array Value} {below : List Frame} {meth : Method} {c : Code} {G : gW} {own : String} {cc : ByteArray} {nL : Nat} {M : Mem} {cells slots pc : Nat} {lo : List (Nat × Value)} {st : List Value} {Q : State → Prop}
theorem r_cell (Cc : Cx p l s m args meth c G own cc nL) (hgX : gX G s s.heap) (hfl : l.flags = flags0) {b L idx k : Nat} {xs : Nat → Int32} (hX : va_X b L xs s s.heap) (hbl : b < s.heap.size) (hbA : ¬ gA G b) (hL : L ≤ 4096) (hk : k < 4096) (Lk : ML own idx RL yL_cell cL_cell 2 (some .int) 2) (hW : (st.map fun v => v.category).sum ≤ 8) (hR : 1 ≤ R.frames ∧ 21 ≤ R.locals) (hf : cells ≤ R.cells ∧ slots ≤ R.slots) (hd : decode cc pc = .ok (.invokestatic idx, 3))
    (kk : ∀ x : Int32, V p l e R s m args below meth c G Q nL M cells slots (pc + 3) lo (.int x :: st)) : V p l e R s m args below meth c G Q nL M cells slots pc lo (.int (nI k) :: .ref b :: st) := by
  intro H locs ls h1 h2 h3
  refine Ke.go (mc := 0) (ms := 0) (va_runS (As := [.ref b, .int (nI k)]) (rest := st) (g := F0 m pc ls (.int (nI k) :: .ref b :: st)) ⟨Cc.1, Cc.2.1, Cc.2.2.2.2.2.2.2.1, Cc.2.2.1, Cc.2.2.2.1⟩ (c_L_cell l hfl G M b L xs k hL hk hbA) ⟨CT.cb Cc.2.2.2.1 Lk ⟨hR.1, hR.2⟩, Cc.2.2.2.1 _ st_L_cell⟩ ⟨Kc.blind G M b L xs _, fun U hU hW' => ⟨rfl, (Cc.kn hgX h1 h2 U hU hW' (av := [])).2, by rw [hU]; exact (va_X.moved hW'.alike hX).kept (h2.2.1 b hbl hbA)⟩⟩ rfl rfl h3.1 rfl (lv_room hW) hd hf) h2 h3 ?_
  rintro _ M' ⟨x, rfl, rfl⟩
  exact kk x
end RowCell
