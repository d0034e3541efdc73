/-! THE CLASS: throwing -/
theorem fl_st {l : Launch} (h : l.flags = flags0) : l.stackTraces = false := by
  unfold Launch.stackTraces
  rw [h]
  decide +kernel
/-- the memory without its marker -/
def mCl (M : Mem) : Mem := (mK M, fun a => if mK M a = 0 then 0 else mN M a, M.2.2)
theorem mCl_n {M : Mem} {a : Nat} (h : mK M a ≠ 0) : mN (mCl M) a = mN M a := if_neg h
theorem gRel.cl {G : gW} {M : Mem} {H : Heap} (h : gRel G M H) : gRel G (mCl M) H := by
  intro a
  obtain ⟨q1, q2, q3, q4, q5, q6, q7⟩ := h a
  have hn : mK M a ≠ 0 → mN (mCl M) a = mN M a := mCl_n
  refine ⟨q1, q2, fun z => ?_, fun z => ?_, fun z => ?_, fun j hj z => ?_, fun z1 z2 => ?_⟩
  · rw [hn (by rw [show mK M a = 20 from z]; decide)]; exact q3 z
  · rw [hn (by rw [show mK M a = 21 from z]; decide)]; exact q4 z
  · rw [hn (by rw [show mK M a = 22 from z]; decide)]; exact q5 z
  · rw [hn (by rw [show mK M a = 23 + j from z]; omega)]; exact q6 j hj z
  · have : mN (mCl M) a = 0 := if_pos z1
    omega
theorem gRel.grow {G : gW} {M : Mem} {H H1 : Heap} (h : gRel G M H) (hz : H.size ≤ H1.size) (oq : ∀ q, q < H.size → H1[q]? = H[q]?) : gRel G (mCl M) H1 := by
  have hf : mK M H.size = 0 := h.fresh (Nat.le_refl _)
  have hf2 : mK (mCl M) H.size = 0 := hf
  have nm : ∀ b, mK (mCl M) b = 0 → mN (mCl M) b = 1 → H1.size = b := fun b z1 z2 => by
    have : mN (mCl M) b = 0 := if_pos z1
    omega
  refine h.cl.off (M' := mCl M) (a := H.size) (fun b _ => ⟨rfl, rfl, rfl, rfl, rfl⟩) hz (fun b _ => nm b) (fun q _ hq => oq q hq) ?_
  rw [hf2]
  exact ⟨fun z => absurd rfl z, fun ci r _ z => by omega, fun z => by omega, fun z => by omega, fun z => by omega, fun j _ z => by omega, fun _ z => nm _ hf2 z⟩
/-- how a method throws: the class's name, the memory then -/
def Kx (G : gW) (X : String → Mem → Prop) : String → State → State → Prop := fun E st t => (∃ M', X E M' ∧ gRel G M' t.heap) ∧ va_F (gA G) st t
/-- the contract of a method that returns with post or throws with X -/
def CX (l : Launch) (y : MethodName) (b : ByteArray) (n : Nat) (ret : Option FieldType) (fr mc ms lc : Nat) (G : gW) (M : Mem) (av : List Value) (post : Option Value → Mem → Prop) (X : String → Mem → Prop) : Prop :=
  vx_Met l y (Cond.code y b n ret :: tw_big) ({ frames := fr, cells := mc, slots := ms, locals := lc } : Room) (Kn G M av) (Ke G post) (Kx G X) mc ms (gA G)
theorem CX.of {l : Launch} {y : MethodName} {b : ByteArray} {n : Nat} {ret : Option FieldType} {fr mc ms lc : Nat} {G : gW} {M : Mem} {av : List Value} {post : Option Value → Mem → Prop} {X : String → Mem → Prop} (hfl : l.flags = flags0) (hy : plainName y.cls = true) (hn : (lg_sl av).length ≤ n)
    (body : ∀ (p : Program) (e : Env) (s : State) (m : MethodId) (args : Array Value) (below : List Frame) (meth : Method) (c : Code), Cx p l s m args meth c G y.cls b n → gX G s s.heap → meth.sig.returnType = ret → (∀ x ∈ c.exceptionTable.toList, False) →
      V p l e ({ frames := fr, cells := mc, slots := ms, locals := lc } : Room) s m args below meth c G (vx_MQ below (Ke G post) (Kx G X) args s mc ms (gA G)) n M 0 0 0 (lv_args 0 av) []) : CX l y b n ret fr mc ms lc G M av post X := by
  refine vx_ofW (cc := b) (maxL := n) (ret := ret) hy rfl ?_
  intro p e s m args below meth c s₁ B hml ht hv
  obtain ⟨rfl, hK, hM, hB, hX⟩ := hv
  have hts := atoms_spec (ws := Cond.code y b n ret :: tw_big) B.pre
  have hown : s.vm.findClass y.cls = some m.cls := findClass_of_methodNamed B.named
  have hl := lv_entry av (n := n) hn
  rw [lg_entry_eq]
  exact body p e s m av.toArray below meth c ⟨B.exec, B.bytes, hown, fun w hw => hts w (List.mem_cons_of_mem _ hw), hK, hB, B.notSynchronized, hml, hfl⟩ hX B.returns ht s.heap [] _ hM va_S.rf hl
section RowsX
variable {p : Program} {l : Launch} {e : Env} {R : Room} {s : State} {m : MethodId} {args : Array Value} {below : List Frame} {meth : Method} {c : Code} {G : gW} {own : String} {cc : ByteArray} {nL : Nat} {M : Mem} {cells slots pc mc0 ms0 : Nat} {lo : List (Nat × Value)} {st : List Value} {Qc : Array Value → State → Outcome → State → Prop} {X0 : String → Mem → Prop} {XC : String → State → State → Prop}
variable {C : String} {idx : Nat} {y : MethodName} {b : ByteArray} {maxL n fr mc ms lc : Nat} {ret : Option FieldType} {post : Option Value → Mem → Prop} {X : String → Mem → Prop} {As : List Value}
/-- an end that returns -/
theorem V.xret (k : V p l e R s m args below meth c G (MQ below Qc args s mc0 ms0 (gA G)) nL M cells slots pc lo st) : V p l e R s m args below meth c G (vx_MQ below Qc XC args s mc0 ms0 (gA G)) nL M cells slots pc lo st := fun H locs ls h1 h2 h3 => vx_ret (k H locs ls h1 h2 h3)
theorem Kx.go {rest : List Value} {ls : Array Slot} {st0 : List Value} {av : Array Value} {H : Heap} {locs : List Loc} (Cc : Cx p l s m args meth c G own cc nL) (hno : ∀ x ∈ c.exceptionTable.toList, False)
    (hr : vx_Run p l e R s m args below meth c H locs cells slots mc ms (F0 m pc ls st0) rest (Ke G post av) (Kx G X) (gA G)) (h2 : va_S (gA G) s.heap H locs) (h3 : lv_has ls nL lo) (hX : ∀ E M', X E M' → X0 E M') (hc : cells + mc ≤ mc0 ∧ slots + ms ≤ ms0)
    (kk : ∀ (v : Option Value) (M' : Mem), post v M' → V p l e R s m args below meth c G (vx_MQ below Qc (Kx G X0) args s mc0 ms0 (gA G)) nL M' (cells + mc) (slots + ms) (pc + 3) lo (v.toList ++ rest)) : W p l e R s m args below meth c H locs cells slots (vx_MQ below Qc (Kx G X0) args s mc0 ms0 (gA G)) (F0 m pc ls st0) := by
  intro T hT Xs
  rcases hr T hT Xs with ⟨v, st₀, t, T', L, h0, X', hL, e1, e2, ⟨⟨v', M', hv, hp, hb⟩, hz, hk⟩, st⟩ | ⟨q, st₀, t, T', L, E, ce, h0, X', hL, e1, e2, ⟨⟨M', hp, hb⟩, hz, hk⟩, hce, hcv, hcl, st⟩
  · cases hv
    rw [h0] at hz hk
    have hS' : va_S (gA G) s.heap T'.heap (locs ++ L) := ⟨Nat.le_trans h2.1 (by rw [e1]; exact hz), fun q h5 h6 => by rw [e1, hk q (Nat.lt_of_lt_of_le h5 h2.1) h6]; exact h2.2.1 q h5 h6, fun q hq => by
        rcases List.mem_append.mp hq with h | h
        · exact h2.2.2 q h
        · exact hL q h⟩
    obtain ⟨t2, a1, b1⟩ := kk v M' hp T'.heap (locs ++ L) ls (by rw [e1]; exact hb) hS' h3 T' rfl X'
    exact ⟨t2, st t2 a1, b1⟩
  · rw [h0] at hz hk
    have hS' : va_S (gA G) s.heap T'.heap (locs ++ L) := ⟨Nat.le_trans h2.1 (by rw [e1]; exact hz), fun q h5 h6 => by rw [e1, hk q (Nat.lt_of_lt_of_le h5 h2.1) h6]; exact h2.2.1 q h5 h6, fun q hq => by
        rcases List.mem_append.mp hq with h | h
        · exact h2.2.2 q h
        · exact hL q h⟩
    have w : vx_W p l e R s m args below meth c T'.heap (locs ++ L) (cells + mc) (slots + ms) (vx_MQ below Qc (Kx G X0) args s mc0 ms0 (gA G)) (F0 m pc ls rest) q :=
      vx_out (E := E) (ce := ce) (fun x hx => (hno x hx).elim) Cc.2.2.2.2.2.2.1 (by rw [e1]; exact hce) hcv hcl (fun t' ht' _ => ⟨⟨M', hX E M' hp, by rw [ht', e1]; exact hb⟩, by rw [ht']; exact hS'.1, fun q h5 h6 => by rw [ht']; exact hS'.2.1 q h5 h6⟩) hS'.2.2 hc.1 hc.2
    obtain ⟨t2, a1, b1⟩ := w T' rfl X'
    exact ⟨t2, st.trans a1, b1⟩
theorem r_xV (Cc : Cx p l s m args meth c G own cc nL) (hgX : gX G s s.heap) (hno : ∀ x ∈ c.exceptionTable.toList, False) {a ci : Nat} {r : vw_C} (L : ML own idx C y b maxL ret n) (hi : Cond.instanceMethod y ∈ tw_big) (hse : Cond.selects C y y ∈ tw_big) (hc : vwCl[ci]? = some r) (hrC : r.1 = C) (hk : mK M a = ci + 1)
    (hM : CX l y b maxL ret fr mc ms lc G M (.ref a :: As) post X) (hn : As.length = n) (hW : (st.map fun v => v.category).sum ≤ 8) (hR : fr + 1 ≤ R.frames ∧ 8 + (maxL + 11) + lc ≤ R.locals) (hf : cells + mc ≤ R.cells ∧ slots + ms ≤ R.slots) (hd : decode cc pc = .ok (.invokevirtual idx, 3)) {st0 : List Value} (hst : st0 = As.reverse ++ .ref a :: st)
    (hX : ∀ E M', X E M' → X0 E M') (hc0 : cells + mc ≤ mc0 ∧ slots + ms ≤ ms0)
    (kk : ∀ (v : Option Value) (M' : Mem), post v M' → V p l e R s m args below meth c G (vx_MQ below Qc (Kx G X0) args s mc0 ms0 (gA G)) nL M' (cells + mc) (slots + ms) (pc + 3) lo (v.toList ++ st)) : V p l e R s m args below meth c G (vx_MQ below Qc (Kx G X0) args s mc0 ms0 (gA G)) nL M cells slots pc lo st0 := by
  intro H locs ls h1 h2 h3
  subst hst
  subst hrC
  exact Kx.go Cc hno (vx_runV (As := As) (rest := st) (g := F0 m pc ls (As.reverse ++ .ref a :: st)) ⟨Cc.1, Cc.2.1, Cc.2.2.2.2.2.2.2.1, Cc.2.2.1, Cc.2.2.2.1⟩ hM ⟨CT.cb Cc.2.2.2.1 L hR, Cc.2.2.2.1 _ hi, Cc.2.2.2.1 _ hse⟩ ⟨Kn.blind G M _, va_recv Cc.2.2.2.2.1 (h1.P1 hc hk) (ci := ci) (q0 := 0) hc rfl, fun U hU hW' => Cc.kn hgX h1 h2 U hU hW'⟩ rfl hn h3.1 rfl (lv_room hW) hd hf) h2 h3 hX hc0 kk
theorem r_xS (Cc : Cx p l s m args meth c G own cc nL) (hgX : gX G s s.heap) (hno : ∀ x ∈ c.exceptionTable.toList, False) (L : ML own idx C y b maxL ret n) (hi : Cond.static y ∈ tw_big)
    (hM : CX l y b maxL ret fr mc ms lc G M As post X) (hn : As.length = n) (hW : (st.map fun v => v.category).sum ≤ 8) (hR : fr + 1 ≤ R.frames ∧ 8 + (maxL + 11) + lc ≤ R.locals) (hf : cells + mc ≤ R.cells ∧ slots + ms ≤ R.slots) (hd : decode cc pc = .ok (.invokestatic idx, 3)) {st0 : List Value} (hst : st0 = As.reverse ++ st)
    (hX : ∀ E M', X E M' → X0 E M') (hc0 : cells + mc ≤ mc0 ∧ slots + ms ≤ ms0)
    (kk : ∀ (v : Option Value) (M' : Mem), post v M' → V p l e R s m args below meth c G (vx_MQ below Qc (Kx G X0) args s mc0 ms0 (gA G)) nL M' (cells + mc) (slots + ms) (pc + 3) lo (v.toList ++ st)) : V p l e R s m args below meth c G (vx_MQ below Qc (Kx G X0) args s mc0 ms0 (gA G)) nL M cells slots pc lo st0 := by
  intro H locs ls h1 h2 h3
  subst hst
  exact Kx.go Cc hno (vx_runS (As := As) (rest := st) (g := F0 m pc ls (As.reverse ++ st)) ⟨Cc.1, Cc.2.1, Cc.2.2.2.2.2.2.2.1, Cc.2.2.1, Cc.2.2.2.1⟩ hM ⟨CT.cb Cc.2.2.2.1 L hR, Cc.2.2.2.1 _ hi⟩ ⟨Kn.blind G M _, fun U hU hW' => Cc.kn hgX h1 h2 U hU hW'⟩ rfl hn h3.1 rfl (lv_room hW) hd hf) h2 h3 hX hc0 kk
end RowsX
/-- the words of throws, among the tables' -/
def tcI : List Nat := [12, 13, 14, 15, 16, 17, 39, 40, 41, 42] ++ (List.range 112).map (fun i => i + 376)
def tcW : List Cond := tcI.filterMap (fun i => tables_1[i]?)
theorem tc_big {w : Cond} (h : w ∈ tcW) (g : goodWord w = true) : w ∈ tw_big := by
  obtain ⟨i, -, hi⟩ := List.mem_filterMap.mp h
  exact tw_i i hi g
def thN : List String := ["java/lang/RuntimeException", "java/lang/Exception"]
def thB (X : String) : List Cond := .castable X X :: gxD.map (fun Y => .declares ⟨Y, "<init>", "(Ljava/lang/String;)V"⟩)
def thOK (ik ic : Nat) (X : String) : Prop := ((vx_atS RX11 ic X thN).filter goodWord).all (fun w => decide (w ∈ tcW)) = true ∧ ((vx_atS RX11 ic X thN).filter (fun w => !goodWord w)).all (fun w => decide (w ∈ thB X)) = true ∧
  (Cond.classLink RX11 ik X :: Cond.initialized X :: vx_atS RX11 ic X thN).all vx_ot = true ∧ (decide (Cond.classLink RX11 ik X ∈ tcW) && goodWord (Cond.classLink RX11 ik X)) = true ∧ (decide (Cond.initialized X ∈ tcW) && goodWord (Cond.initialized X)) = true ∧ Bundle.fit X = true
theorem th_0 : thOK 372 376 "java/lang/IndexOutOfBoundsException" := by refine ⟨?_, ?_, ?_, ?_, ?_, ?_⟩ <;> decide +kernel
theorem th_1 : thOK 379 383 "java/lang/IllegalArgumentException" := by refine ⟨?_, ?_, ?_, ?_, ?_, ?_⟩ <;> decide +kernel
theorem th_2 : thOK 384 388 "java/lang/IllegalStateException" := by refine ⟨?_, ?_, ?_, ?_, ?_, ?_⟩ <;> decide +kernel
theorem r_throwW {p : Program} {l : Launch} {e : Env} {R : Room} {s : State} {m : MethodId} {args : Array Value} {below : List Frame} {meth : Method} {c : Code} {G : gW} {cc : ByteArray} {nL : Nat} {M : Mem} {cells slots pc mc0 ms0 : Nat} {lo : List (Nat × Value)} {st : List Value} {Qc : Array Value → State → Outcome → State → Prop} {X0 : String → Mem → Prop}
    (Cc : Cx p l s m args meth c G RX11 cc nL) (hgX : gX G s s.heap) (hno : ∀ x ∈ c.exceptionTable.toList, False) {X text : String} {ik is ic sa : Nat} (ok : thOK ik ic X) (hcast : va_Nw (.castable X X) s) (hstr : vk_R RX11 is text sa s)
    (d0 : decode cc pc = .ok (.new ik, 3)) (d3 : decode cc (pc + 3) = .ok (.dup, 1)) (d4 : decode cc (pc + 4) = .ok (.ldc_w is, 3)) (d7 : decode cc (pc + 7) = .ok (.invokespecial ic, 3)) (d10 : decode cc (pc + 10) = .ok (.athrow, 1))
    (hR : 6 ≤ R.frames ∧ (st.map fun v => v.category).sum + 82 ≤ R.locals ∧ cells + 1 ≤ R.cells ∧ slots + 6 ≤ R.slots) (hc : cells + 1 ≤ mc0) (hs : slots + 6 ≤ ms0) (hx : X0 X (mCl M)) : V p l e R s m args below meth c G (vx_MQ below Qc (Kx G X0) args s mc0 ms0 (gA G)) nL M cells slots pc lo st := by
  obtain ⟨o1, o2, o3, o4, o5, o6⟩ := ok
  rw [Bool.and_eq_true] at o4 o5
  have hB : ∀ w ∈ thB X, w.before args s = true := by
    intro w hw
    rcases List.mem_cons.mp hw with rfl | hw
    · exact hcast.use rfl
    · obtain ⟨Y, hY, rfl⟩ := List.mem_map.mp hw
      exact (hgX.2.2.2.2.2.1.2.2.2.1 Y hY).use rfl
  have hat : ∀ w ∈ vx_atS RX11 ic X thN, w.before args s = true := vx_hat (fun w hw => Cc.2.2.2.1 w (tc_big (of_decide_eq_true (List.all_eq_true.mp o1 w hw)) (List.mem_filter.mp hw).2)) (fun w hw => of_decide_eq_true (List.all_eq_true.mp o2 w hw)) hB
  intro H locs ls h1 h2 h3
  exact vx_throwSW (A := gA G) Cc.1 Cc.2.1 (fl_st Cc.2.2.2.2.2.2.2.2) Cc.2.2.1 o6 (by intro n hn; rcases List.mem_cons.mp hn with rfl | hn; decide +kernel; rcases List.mem_cons.mp hn with rfl | hn; decide +kernel; cases hn) (Cc.2.2.2.1 _ (tc_big (of_decide_eq_true o4.1) o4.2)) (Cc.2.2.2.1 _ (tc_big (of_decide_eq_true o5.1) o5.2)) hstr hat (List.all_eq_true.mp o3) hgX.2.2.1 hgX.2.2.2.1 h2 (h3.1.trans Cc.2.2.2.2.2.2.2.1.symm) d0 d3 d4 d7 d10 (fun x hx => (hno x hx).elim) hR.1 hR.2.1 hR.2.2.1 hR.2.2.2 Cc.2.2.2.2.2.2.1
    (fun t _ ht1 ht2 => ⟨⟨mCl M, hx, h1.grow ht1 ht2⟩, Nat.le_trans h2.1 ht1, fun q h5 h6 => by rw [ht2 q (Nat.lt_of_lt_of_le h5 h2.1)]; exact h2.2.1 q h5 h6⟩) h2.2.2 hc hs


