/-! THE LAW: rows -/
theorem KP.cl {A B : Nat → Prop} {M : Mem} : KP A B M (mCl M) := fun x hx => ⟨rfl, mCl_n hx, fun _ => ⟨rfl, rfl⟩, fun _ => rfl⟩
theorem WS.cl {τ : Mu} {G : gW} {α : Nat → Nat} {M : Mem} (hw : WF τ) (ws : WS τ G α M) : WS τ G α (mCl M) := by
  obtain ⟨sz, el, ix, hl⟩ := ws.ls
  have lz := hl.1.kp (A := fun _ => False) (B := fun _ => False) KP.cl (fun _ _ h => h) (fun _ _ h => h)
  exact WS.grow hw ws (fun _ _ => rfl) (fun k hk => ⟨rfl, mCl_n (ws.kn hk), fun _ => rfl⟩) ws.1 (fun c hc => .inl hc) (fun g hg => .inl hg) (fun k hk => .inl ⟨hk, rfl⟩) (fun k hk => .inl hk) (sz := sz) (el := el) (ix := ix) ⟨lz, hl.2⟩
theorem WD.cl {τ : Mu} {G : gW} {α : Nat → Nat} {M : Mem} (hw : WF τ) (w : WD τ G α M) : WD τ G α (mCl M) := ⟨w.1.cl hw, w.2.1, w.2.2⟩
theorem WD.fr {τ : Mu} {G : gW} {α : Nat → Nat} {A : Nat → Prop} {M M1 : Mem} (hw : WF τ) (w : WD τ G α M) (f : frm A M M1) (n : ∀ k, LV τ k → ¬ A (α k)) : WD τ G α M1 := by
  have h9 := hw.nc.2
  have h44 := hw.ng.2
  have h17 := hw.nl.2
  have h51 := hw.np.2
  obtain ⟨ws, ⟨w1, w2, w3, w4, w5⟩, wb⟩ := w
  have nc : ∀ c, c < un τ 9 9 → ∀ o, o < 10 → ¬ A (cO α c o) := fun c hc o ho => n _ (lv_c hc ho)
  have nb : ∀ r, r < 6 → ∀ o, o < 42 → ¬ A (bO α r o) := fun r hr o ho => n _ (lv_b hr ho)
  refine ⟨ws.fr f (fun k hk => n k hk.lv), ⟨fun c hc => (w1 c hc).cg (fun k _ => congrFun (f.i (nc c hc 0 (by decide))) k) (fun o _ ho => f.i (nc c hc o (by omega))), fun r hr => (w2 r hr).cg (fun o ho => f.i (n _ (lv_h hr (show o < 57 by omega)))) (fun o ho => f.l (n _ (lv_h hr (show o < 57 by omega)))), fun x hx => (w3 x hx).cg (fun o ho => f.i (n _ (lv_g hx ho))) (fun o ho => f.l (n _ (lv_g hx ho))), ?_, w5.cg (fun k hk => congrFun (f.i (n _ (lv_l hk))) 1) (fun g hg => f.i (n _ (lv_a hg (show 0 < 2 by decide)))) (fun k hk => ⟨f.i (n _ (lv_y hk)), f.l (n _ (lv_y hk))⟩)⟩, fun c hc z => (wb.1 c hc (by rw [← f.i (nc c hc 0 (by decide))]; exact z)).fr f (nc c hc 7 (by decide)) (nc c hc 8 (by decide)), fun r hr z => ?_⟩
  · obtain ⟨b1, b2, b3, b4, b5, b6, b7⟩ := w4
    unfold WTx
    rw [f.i (n 0 (lv_s (by decide)))]
    exact ⟨b1, b2, b3, b4, b5, b6, b7.cgs (fun o ho => f.i (n (4 + o) (lv_s (by omega))))⟩
  · refine BF.cg (fun o ho => ⟨f.i (nb r hr o ho), f.l (nb r hr o ho)⟩) (fun g hg _ => f.l (n _ (lv_a hg (by decide)))) (fun c hc _ => ⟨f.i (nc c hc 8 (by decide)), f.l (nc c hc 7 (by decide)), f.l (nc c hc 9 (by decide))⟩) (fun k hk _ => congrFun (f.i (n _ (lv_l hk))) 2) (wb.2 r hr ?_)
    rw [← f.i (nb r hr 0 (by decide))]; exact z
/-- a method with a table of its own, as an instruction names it -/
def HL (own : String) (idx : Nat) (y : MethodName) (b : ByteArray) (maxL : Nat) (ret : Option FieldType) (hh : List (Nat × Nat × Nat × Nat)) (n : Nat) : Prop :=
  Cond.methodLink own idx y ∈ tw_big ∧ Cond.initialized y.cls ∈ tw_big ∧ Cond.codeWith y b maxL ret hh ∈ tw_big ∧ (y.cls ≠ "java/lang/invoke/MethodHandle" ∧ y.cls ≠ "java/lang/invoke/VarHandle") ∧ (parseMethodDescriptor y.desc).map (fun d => d.parameters.length) = some n ∧ Cond.static y ∈ tw_big
/-- its contract: it returns, with post -/
def CH (l : Launch) (y : MethodName) (b : ByteArray) (n : Nat) (ret : Option FieldType) (hh : List (Nat × Nat × Nat × Nat)) (fr mc ms lc : Nat) (G : gW) (M : Mem) (av : List Value) (post : Option Value → Mem → Prop) : Prop :=
  vx_Met l y (Cond.codeWith y b n ret hh :: tw_big) ({ frames := fr, cells := mc, slots := ms, locals := lc } : Room) (Kn G M av) (Ke G post) (fun _ _ _ => False) mc ms (gA G)
theorem CH.of {l : Launch} {y : MethodName} {b : ByteArray} {n : Nat} {ret : Option FieldType} {hh : List (Nat × Nat × Nat × Nat)} {fr mc ms lc : Nat} {G : gW} {M : Mem} {av : List Value} {post : Option Value → Mem → Prop} (hfl : l.flags = flags0) (hy : plainName y.cls = true) (hn : (lg_sl av).length ≤ n)
    (body : ∀ (p : Program) (e : Env) (s : State) (m : MethodId) (args : Array Value) (below : List Frame) (meth : Method) (c : Code), Cx p l s m args meth c G y.cls b n → gX G s s.heap → meth.sig.returnType = ret → c.exceptionTable.toList = tableOf hh →
      V p l e ({ frames := fr, cells := mc, slots := ms, locals := lc } : Room) s m args below meth c G (vx_MQ below (Ke G post) (fun _ _ _ => False) args s mc ms (gA G)) n M 0 0 0 (lv_args 0 av) []) : CH l y b n ret hh fr mc ms lc G M av post := by
  refine vx_ofWH (cc := b) (maxL := n) (ret := ret) (hh := hh) hy rfl ?_
  intro p e s m args below meth c s₁ B hml hv
  obtain ⟨rfl, hK, hM, hB, hX⟩ := hv
  have hts := atoms_spec (ws := Cond.codeWith y b n ret hh :: tw_big) B.pre
  have hown : s.vm.findClass y.cls = some m.cls := findClass_of_methodNamed B.named
  have hl := lv_entry av (n := n) hn
  rw [lg_entry_eq]
  exact body p e s m av.toArray below meth c ⟨B.exec, B.bytes, hown, fun w hw => hts w (List.mem_cons_of_mem _ hw), hK, hB, B.notSynchronized, hml, hfl⟩ hX B.returns (vx_table (x := y) B (hts _ List.mem_cons_self)) s.heap [] _ hM va_S.rf hl
section RowsH
variable {p : Program} {l : Launch} {e : Env} {R : Room} {s : State} {m : MethodId} {args : Array Value} {below : List Frame} {meth : Method} {c : Code} {G : gW} {own : String} {cc : ByteArray} {nL : Nat} {M : Mem} {cells slots pc mc0 ms0 : Nat} {lo : List (Nat × Value)} {st : List Value} {Qc : Array Value → State → Outcome → State → Prop} {X0 : String → Mem → Prop} {XC : String → State → State → Prop}
variable {C : String} {idx : Nat} {y : MethodName} {b : ByteArray} {maxL n fr mc ms lc : Nat} {ret : Option FieldType} {post : Option Value → Mem → Prop} {X : String → Mem → Prop} {As : List Value}
variable {Q : State → Prop} {hh : List (Nat × Nat × Nat × Nat)}
theorem HL.cb {R : Room} {s : State} {args : Array Value} {own : String} {idx : Nat} {y : MethodName} {b : ByteArray} {maxL n fr mc ms lc : Nat} {ret : Option FieldType} {hh : List (Nat × Nat × Nat × Nat)} (hts : ∀ w ∈ tw_big, w.before args s = true) (L : HL own idx y b maxL ret hh n) (hR : fr + 1 ≤ R.frames ∧ 8 + (maxL + 11) + lc ≤ R.locals) :
    vx_CSW R s args own idx y b maxL ret hh (Cond.codeWith y b maxL ret hh :: tw_big) ({ frames := fr, cells := mc, slots := ms, locals := lc } : Room) mc ms n := by
  obtain ⟨h1, h2, h3, h5, h6, h7⟩ := L
  refine ⟨⟨rfl, rfl, hR.1, hR.2, ?_, List.mem_cons_self⟩, hts _ h3, hts _ h2, h5, fun sig h => ?_, hts _ h1, hts _ h7⟩
  · intro w hw a' U hW
    have hw' : w ∈ tw_big := (List.mem_cons.mp hw).elim (fun e => by rw [e]; exact h3) id
    exact word_at hW (tw_good w hw').2 (hts w hw')
  · rw [h] at h6
    exact (Option.some.inj h6).symm
theorem r_callH (Cc : Cx p l s m args meth c G own cc nL) (hgX : gX G s s.heap) (L : HL own idx y b maxL ret hh n)
    (hM : CH l y b maxL ret hh fr mc ms lc G M As post) (hn : As.length = n) (hW : (st.map fun v => v.category).sum ≤ 8) (hR : fr + 1 ≤ R.frames ∧ 8 + (maxL + 11) + lc ≤ R.locals) (hf : cells + mc ≤ R.cells ∧ slots + ms ≤ R.slots) (hd : decode cc pc = .ok (.invokestatic idx, 3)) {st0 : List Value} (hst : st0 = As.reverse ++ st)
    (kk : ∀ (v : Option Value) (M' : Mem), post v M' → V p l e R s m args below meth c G Q nL M' (cells + mc) (slots + ms) (pc + 3) lo (v.toList ++ st)) : V p l e R s m args below meth c G Q nL M cells slots pc lo st0 := by
  intro H locs ls h1 h2 h3
  subst hst
  have hr : vx_Run p l e R s m args below meth c H locs cells slots mc ms (F0 m pc ls (As.reverse ++ st)) st (Ke G post As.toArray) (fun _ _ _ => False) (gA G) := vx_runSX (hh := hh) (As := As) (rest := st) (g := F0 m pc ls (As.reverse ++ st)) ⟨Cc.1, Cc.2.1, Cc.2.2.2.2.2.2.2.1, Cc.2.2.1, Cc.2.2.2.1⟩ hM (HL.cb Cc.2.2.2.1 L hR) ⟨Kn.blind G M _, fun U hU hW' => Cc.kn hgX h1 h2 U hU hW'⟩ rfl hn h3.1 rfl (lv_room hW) hd hf
  refine Ke.go (av := As.toArray) (fun T hT X => ?_) h2 h3 kk
  rcases hr T hT X with h | ⟨q, st₀, t, T', L, E, ce, h0, X', hL, e1, e2, hx, _⟩
  · exact h
  · exact hx.elim
/-- a call whose throw is caught here -/
def Caught (c : Code) (own : String) (s : State) (pc : Nat) (E : String) (t : Nat) : Prop :=
  ∃ (pre : List ExceptionTableEntry) (x : ExceptionTableEntry) (suf : List ExceptionTableEntry), c.exceptionTable.toList = pre ++ x :: suf ∧ (∀ z ∈ pre, z.catchType ≠ 0 ∧ ∃ nm : String, Cond.classLink own z.catchType nm ∈ tw_big ∧ va_Nc E nm s) ∧ covers x pc = true ∧ x.catchType ≠ 0 ∧ Cond.classLink own x.catchType E ∈ tw_big ∧ va_Nw (.castable E E) s ∧ x.handlerPc = t
theorem r_xVc (Cc : Cx p l s m args meth c G own cc nL) (hgX : gX G s s.heap) {a ci : Nat} {r : vw_C} (L : ML own idx C y b maxL ret n) (hi : Cond.instanceMethod y ∈ tw_big) (hse : Cond.selects C y y ∈ tw_big) (hc : vwCl[ci]? = some r) (hrC : r.1 = C) (hk : mK M a = ci + 1)
    (hM : CX l y b maxL ret fr mc ms lc G M (.ref a :: As) post X) (hn : As.length = n) (hW : (st.map fun v => v.category).sum ≤ 8) (hR : fr + 1 ≤ R.frames ∧ 8 + (maxL + 11) + lc ≤ R.locals) (hf : cells + mc ≤ R.cells ∧ slots + ms ≤ R.slots) (hd : decode cc pc = .ok (.invokevirtual idx, 3)) {st0 : List Value} (hst : st0 = As.reverse ++ .ref a :: st)
    (kx : ∀ E M', X E M' → ∃ t, Caught c own s pc E t ∧ ∀ q, V p l e R s m args below meth c G Q nL M' (cells + mc) (slots + ms) t lo [.ref q])
    (kk : ∀ (v : Option Value) (M' : Mem), post v M' → V p l e R s m args below meth c G Q nL M' (cells + mc) (slots + ms) (pc + 3) lo (v.toList ++ st)) : V p l e R s m args below meth c G Q nL M cells slots pc lo st0 := by
  intro H locs ls h1 h2 h3
  subst hst
  subst hrC
  have hr : vx_Run p l e R s m args below meth c H locs cells slots mc ms (F0 m pc ls (As.reverse ++ .ref a :: st)) st (Ke G post (Value.ref a :: As).toArray) (Kx G X) (gA G) := vx_runV (As := As) (rest := st) (g := F0 m pc ls (As.reverse ++ .ref a :: st)) ⟨Cc.1, Cc.2.1, Cc.2.2.2.2.2.2.2.1, Cc.2.2.1, Cc.2.2.2.1⟩ hM ⟨CT.cb Cc.2.2.2.1 L hR, Cc.2.2.2.1 _ hi, Cc.2.2.2.1 _ hse⟩ ⟨Kn.blind G M _, va_recv Cc.2.2.2.2.1 (h1.P1 hc hk) (ci := ci) (q0 := 0) hc rfl, fun U hU hW' => Cc.kn hgX h1 h2 U hU hW'⟩ rfl hn h3.1 rfl (lv_room hW) hd hf
  intro T hT Xs
  rcases hr T hT Xs with ⟨v, st₀, t, T', L, h0, X', hL, e1, e2, ⟨⟨v', M', hv, hp, hb⟩, hz, hk⟩, stp⟩ | ⟨q, st₀, t, T', L, E, ce, h0, X', hL, e1, e2, ⟨⟨M', hp, hb⟩, hz, hk⟩, hce, hcv, hcl, stp⟩
  · cases hv
    rw [h0] at hz hk
    have hS' : va_S (gA G) s.heap T'.heap (locs ++ L) := ⟨Nat.le_trans h2.1 (by rw [e1]; exact hz), fun q h5 h6 => by rw [e1, hk q (Nat.lt_of_lt_of_le h5 h2.1) h6]; exact h2.2.1 q h5 h6, fun q hq => by
        rcases List.mem_append.mp hq with h | h
        · exact h2.2.2 q h
        · exact hL q h⟩
    obtain ⟨t2, a1, b1⟩ := kk v M' hp T'.heap (locs ++ L) ls (by rw [e1]; exact hb) hS' h3 T' rfl X'
    exact ⟨t2, stp t2 a1, b1⟩
  · rw [h0] at hz hk
    have hS' : va_S (gA G) s.heap T'.heap (locs ++ L) := ⟨Nat.le_trans h2.1 (by rw [e1]; exact hz), fun q h5 h6 => by rw [e1, hk q (Nat.lt_of_lt_of_le h5 h2.1) h6]; exact h2.2.1 q h5 h6, fun q hq => by
        rcases List.mem_append.mp hq with h | h
        · exact h2.2.2 q h
        · exact hL q h⟩
    obtain ⟨tp, ⟨pre, x, suf, c1, c2, c3, c4, c5, c6, rfl⟩, kh⟩ := kx E M' hp
    have w : vx_W p l e R s m args below meth c T'.heap (locs ++ L) (cells + mc) (slots + ms) Q (F0 m pc ls st) q :=
      vx_catch (own := own) (name := E) Cc.2.2.1 pre x suf c1 (fun z hz => .inr ⟨(c2 z hz).1, (c2 z hz).2.elim fun nm h => ⟨nm, Cc.2.2.2.1 _ h.1, h.2⟩⟩) c3 c4 (Cc.2.2.2.1 _ c5) (c6.use rfl) (by rw [e1]; exact hce) hcv hcl (kh q T'.heap (locs ++ L) ls (by rw [e1]; exact hb) hS' h3)
    obtain ⟨t2, a1, b1⟩ := w T' rfl X'
    exact ⟨t2, stp.trans a1, b1⟩
end RowsH
