/-! CONTRACTS over a memory; calls, ends, making -/
def gxC : List String := ["Taxmaze$Contract", "Taxmaze$Leave", "Taxmaze$Garnishment", "Taxmaze$Payment"]
def gxO : List FieldType := [.object "Taxmaze$Person", .object "Taxmaze$Place", .object "Taxmaze$Brackets", .object "java/lang/Object", .array .int, .array .long]
theorem va_Nw.warmO {ty : FieldType} {s U : State} (hW : s.WarmedH U.vm) (hZ : va_Nw (.arrayOver ty) s) : va_Nw (.arrayOver ty) U := by
  have h : (Cond.arrayOver ty).before #[] (s.setVm U.vm) = true := by rw [Cond.arrayOver_setVmC hW.alike]; exact hZ
  exact h
/-- what throws and copies ask beside the good words -/
def gxD : List String := ["java/lang/RuntimeException", "java/lang/Exception", "java/lang/Throwable"]
def gxN : List (String × String) := [("java/lang/IllegalArgumentException", "java/lang/IndexOutOfBoundsException"), ("java/lang/IllegalStateException", "java/lang/IndexOutOfBoundsException"), ("java/lang/IllegalStateException", "java/lang/IllegalArgumentException")]
def gXn (G : gW) (U : State) : Prop := (∀ Y ∈ gxD, va_Nw (.declares ⟨Y, "<init>", "(Ljava/lang/String;)V"⟩) U) ∧ (∀ q ∈ gxN, va_Nc q.1 q.2 U) ∧ va_Dc U ∧ va_Mi "[Ljava/lang/Object;" (gS G 4) U
theorem gXn.warm {G : gW} {s U : State} (hW : s.WarmedH U.vm) (h : gXn G s) : gXn G U := ⟨fun Y hY => va_Nw.warmD hW (h.1 Y hY), fun q hq => (h.2.1 q hq).moved hW.alike, va_Dc.moved hW.alike h.2.2.1, h.2.2.2.moved hW.alike⟩
/-- cells of the machine's that no method of ours writes: ArrayList's two empty arrays' static, what exceptions read, the texts -/
def gX (G : gW) (U : State) (H : Heap) : Prop :=
  va_Z "java/util/ArrayList" "DEFAULTCAPACITY_EMPTY_ELEMENTDATA" "[Ljava/lang/Object;" (.ref (gS G 0)) (gA G) U H ∧ va_T (.object "java/lang/Object") (gS G 0) 0 (fun _ => .null) (gA G) U H ∧
  vx_Zq Bundle.tN "UNASSIGNED_STACK" Bundle.steD (gA G) U H ∧ vx_Zq Bundle.tN "SUPPRESSED_SENTINEL" Bundle.listD (gA G) U H ∧
  (vk_R RX11 374 "there is no such one" (gS G 1) U ∧ vk_R RX11 381 "an argument is out of range" (gS G 2) U ∧ vk_R RX11 386 "this cannot be told now" (gS G 3) U) ∧
  (va_Nw (.castable "java/lang/IndexOutOfBoundsException" "java/lang/IndexOutOfBoundsException") U ∧ va_Nw (.castable "java/lang/IllegalArgumentException" "java/lang/IllegalArgumentException") U ∧ va_Nw (.castable "java/lang/IllegalStateException" "java/lang/IllegalStateException") U ∧ gXn G U) ∧
  (∀ C ∈ gxC, va_Nw (.castable C "java/lang/Object") U) ∧ (∀ ty ∈ gxO, va_Nw (.arrayOver ty) U)
theorem gX.kept {G : gW} {U : State} {H H1 : Heap} (h : gX G U H) (hq : ∀ a : Nat, a < H.size → ¬ gA G a → H1[a]? = H[a]?) : gX G U H1 :=
  ⟨h.1.kept hq, h.2.1.kept hq, h.2.2.1.kept hq, h.2.2.2.1.kept hq, h.2.2.2.2⟩
theorem gX.warm {G : gW} {s U : State} {H : Heap} (hW : s.WarmedH U.vm) (h : gX G s H) : gX G U H :=
  ⟨va_Z.moved hW.alike h.1, va_T.moved hW.alike h.2.1, vx_Zq.moved hW.alike h.2.2.1, vx_Zq.moved hW.alike h.2.2.2.1, ⟨vk_R.warm hW h.2.2.2.2.1.1, vk_R.warm hW h.2.2.2.2.1.2.1, vk_R.warm hW h.2.2.2.2.1.2.2⟩, ⟨va_Nw.warmC hW h.2.2.2.2.2.1.1, va_Nw.warmC hW h.2.2.2.2.2.1.2.1, va_Nw.warmC hW h.2.2.2.2.2.1.2.2.1, h.2.2.2.2.2.1.2.2.2.warm hW⟩, fun C hC => va_Nw.warmC hW (h.2.2.2.2.2.2.1 C hC), fun ty ht => va_Nw.warmO hW (h.2.2.2.2.2.2.2 ty ht)⟩
theorem gX.same {G : gW} {u U : State} {H : Heap} (hv : U.vm = u.vm) (h : gX G u H) : gX G U H := by
  have hW : u.WarmedH U.vm := by rw [hv]; exact State.WarmedH.refl u
  exact gX.warm hW h
/-- a method's start: its arguments, and the memory -/
def Kn (G : gW) (M : Mem) (av : List Value) : Array Value → State → Prop := va_Pc av (fun U => va_K (gD G) vwCl (gTys G) U ∧ gRel G M U.heap ∧ gB G ≤ U.heap.size ∧ gX G U U.heap)
theorem Kn.blind (G : gW) (M : Mem) (av : List Value) : FrameBlind (Kn G M av) := fun a U g mk q => ⟨q.1, va_K.moved (u := U) (U := U.calling g mk a) (Vm.Alike.refl U.vm) q.2.1, q.2.2.1, q.2.2.2.1, gX.same (u := U) rfl q.2.2.2.2⟩
/-- its end -/
def Ke (G : gW) (post : Option Value → Mem → Prop) : Array Value → State → Outcome → State → Prop := fun _ st oc t => (∃ (v : Option Value) (M' : Mem), oc = .returned v ∧ post v M' ∧ gRel G M' t.heap) ∧ va_F (gA G) st t
/-- the contract of method y: from memory M, with arguments av, it returns, with post -/
def CT (l : Launch) (y : MethodName) (b : ByteArray) (n : Nat) (ret : Option FieldType) (fr mc ms lc : Nat) (G : gW) (M : Mem) (av : List Value) (post : Option Value → Mem → Prop) : Prop :=
  Met l y (Cond.code y b n ret :: tw_big) ({ frames := fr, cells := mc, slots := ms, locals := lc } : Room) (Kn G M av) (Ke G post) mc ms (gA G)
/-- a method as an instruction of class own names it by idx -/
def ML (own : String) (idx : Nat) (C : String) (y : MethodName) (b : ByteArray) (maxL : Nat) (ret : Option FieldType) (n : Nat) : Prop :=
  Cond.methodLink own idx y ∈ tw_big ∧ Cond.initialized y.cls ∈ tw_big ∧ Cond.code y b maxL ret ∈ tw_big ∧ y.cls = C ∧ (y.cls ≠ "java/lang/invoke/MethodHandle" ∧ y.cls ≠ "java/lang/invoke/VarHandle") ∧ (parseMethodDescriptor y.desc).map (fun d => d.parameters.length) = some n
theorem CT.cb {R : Room} {s : State} {args : Array Value} {own C : String} {idx : Nat} {y : MethodName} {b : ByteArray} {maxL n fr mc ms lc : Nat} {ret : Option FieldType} (hts : ∀ w ∈ tw_big, w.before args s = true) (L : ML own idx C y b maxL ret n) (hR : fr + 1 ≤ R.frames ∧ 8 + (maxL + 11) + lc ≤ R.locals) :
    CallB R s args own idx y b maxL ret (Cond.code y b maxL ret :: tw_big) ({ frames := fr, cells := mc, slots := ms, locals := lc } : Room) mc ms n := by
  obtain ⟨h1, h2, h3, h4, h5, h6⟩ := L
  refine ⟨rfl, rfl, hR.1, hR.2, ?_, List.mem_cons_self, hts _ h3, hts _ h2, h5, fun sig h => ?_, hts _ h1⟩
  · intro w hw a' U hW
    have hw' : w ∈ tw_big := (List.mem_cons.mp hw).elim (fun e => by rw [e]; exact h3) id
    exact word_at hW (tw_good w hw').2 (hts w hw')
  · rw [h] at h6
    exact (Option.some.inj h6).symm
section RowsC
variable {p : Program} {l : Launch} {e : Env} {R : Room} {s : State} {m : MethodId} {args : Array Value} {below : List Frame} {meth : Method} {c : Code} {G : gW} {own : String} {cc : ByteArray} {Q : State → Prop} {nL : Nat} {M : Mem} {cells slots pc : Nat} {lo : List (Nat × Value)} {st : List Value}
variable {C : String} {idx : Nat} {y : MethodName} {b : ByteArray} {maxL n fr mc ms lc : Nat} {ret : Option FieldType} {post : Option Value → Mem → Prop} {As : List Value}
/-- inside a method the start's facts hold of any state that comes of it -/
theorem Cx.kn (Cc : Cx p l s m args meth c G own cc nL) (hgX : gX G s s.heap) {H : Heap} {locs : List Loc} {av : List Value} (h1 : gRel G M H) (h2 : va_S (gA G) s.heap H locs) (U : State) (hU : U.heap = H) (hW : s.WarmedH U.vm) : Kn G M av av.toArray U :=
  ⟨rfl, va_K.moved hW.alike Cc.2.2.2.2.1, by rw [hU]; exact h1, by rw [hU]; exact Nat.le_trans Cc.2.2.2.2.2.1 h2.1, by rw [hU]; exact (gX.warm hW hgX).kept h2.2.1⟩
/-- behind a call -/
theorem Ke.go {rest : List Value} {ls : Array Slot} {st0 : List Value} {av : Array Value} {H : Heap} {locs : List Loc}
    (hr : va_Run p l e R s m args below meth c H locs cells slots mc ms (F0 m pc ls st0) rest (Ke G post av) (gA G)) (h2 : va_S (gA G) s.heap H locs) (h3 : lv_has ls nL lo)
    (kk : ∀ (v : Option Value) (M' : Mem), post v M' → V p l e R s m args below meth c G Q nL M' (cells + mc) (slots + ms) (pc + 3) lo (v.toList ++ rest)) : W p l e R s m args below meth c H locs cells slots Q (F0 m pc ls st0) := by
  intro T hT X
  obtain ⟨v, st₀, t, T', L, h0, X', hL, e1, e2, ⟨⟨v', M', hv, hp, hb⟩, hz, hk⟩, st⟩ := hr T hT X
  cases hv
  rw [h0] at hz hk
  have hS' : va_S (gA G) s.heap T'.heap (locs ++ L) := ⟨Nat.le_trans h2.1 (by rw [e1]; exact hz), fun q h5 h6 => by rw [e1, hk q (Nat.lt_of_lt_of_le h5 h2.1) h6]; exact h2.2.1 q h5 h6, fun q hq => by
      rcases List.mem_append.mp hq with h | h
      · exact h2.2.2 q h
      · exact hL q h⟩
  obtain ⟨t2, a1, b1⟩ := kk v M' hp T'.heap (locs ++ L) ls (by rw [e1]; exact hb) hS' h3 T' rfl X'
  exact ⟨t2, st t2 a1, b1⟩
theorem r_callV (Cc : Cx p l s m args meth c G own cc nL) (hgX : gX G s s.heap) {a ci : Nat} {r : vw_C} (L : ML own idx C y b maxL ret n) (hi : Cond.instanceMethod y ∈ tw_big) (hse : Cond.selects C y y ∈ tw_big) (hc : vwCl[ci]? = some r) (hrC : r.1 = C) (hk : mK M a = ci + 1)
    (hM : CT l y b maxL ret fr mc ms lc G M (.ref a :: As) post) (hn : As.length = n) (hW : (st.map fun v => v.category).sum ≤ 8) (hR : fr + 1 ≤ R.frames ∧ 8 + (maxL + 11) + lc ≤ R.locals) (hf : cells + mc ≤ R.cells ∧ slots + ms ≤ R.slots) (hd : decode cc pc = .ok (.invokevirtual idx, 3)) {st0 : List Value} (hst : st0 = As.reverse ++ .ref a :: st)
    (kk : ∀ (v : Option Value) (M' : Mem), post v M' → V p l e R s m args below meth c G Q nL M' (cells + mc) (slots + ms) (pc + 3) lo (v.toList ++ st)) : V p l e R s m args below meth c G Q nL M cells slots pc lo st0 := by
  intro H locs ls h1 h2 h3
  subst hst
  subst hrC
  exact Ke.go (va_runV (As := As) (rest := st) (g := F0 m pc ls (As.reverse ++ .ref a :: st)) ⟨Cc.1, Cc.2.1, Cc.2.2.2.2.2.2.2.1, Cc.2.2.1, Cc.2.2.2.1⟩ hM ⟨CT.cb Cc.2.2.2.1 L hR, Cc.2.2.2.1 _ hi, Cc.2.2.2.1 _ hse⟩ ⟨Kn.blind G M _, va_recv Cc.2.2.2.2.1 (h1.P1 hc hk) (ci := ci) (q0 := 0) hc rfl, fun U hU hW' => Cc.kn hgX h1 h2 U hU hW'⟩ rfl hn h3.1 rfl (lv_room hW) hd hf) h2 h3 kk
theorem r_callS (Cc : Cx p l s m args meth c G own cc nL) (hgX : gX G s s.heap) (L : ML own idx C y b maxL ret n) (hi : Cond.static y ∈ tw_big)
    (hM : CT l y b maxL ret fr mc ms lc G M As post) (hn : As.length = n) (hW : (st.map fun v => v.category).sum ≤ 8) (hR : fr + 1 ≤ R.frames ∧ 8 + (maxL + 11) + lc ≤ R.locals) (hf : cells + mc ≤ R.cells ∧ slots + ms ≤ R.slots) (hd : decode cc pc = .ok (.invokestatic idx, 3)) {st0 : List Value} (hst : st0 = As.reverse ++ st)
    (kk : ∀ (v : Option Value) (M' : Mem), post v M' → V p l e R s m args below meth c G Q nL M' (cells + mc) (slots + ms) (pc + 3) lo (v.toList ++ st)) : V p l e R s m args below meth c G Q nL M cells slots pc lo st0 := by
  intro H locs ls h1 h2 h3
  subst hst
  exact Ke.go (va_runS (As := As) (rest := st) (g := F0 m pc ls (As.reverse ++ st)) ⟨Cc.1, Cc.2.1, Cc.2.2.2.2.2.2.2.1, Cc.2.2.1, Cc.2.2.2.1⟩ hM ⟨CT.cb Cc.2.2.2.1 L hR, Cc.2.2.2.1 _ hi⟩ ⟨Kn.blind G M _, fun U hU hW' => Cc.kn hgX h1 h2 U hU hW'⟩ rfl hn h3.1 rfl (lv_room hW) hd hf) h2 h3 kk
theorem r_callI (Cc : Cx p l s m args meth c G own cc nL) (hgX : gX G s s.heap) {a : Nat} (L : ML own idx C y b maxL none n) (hi : Cond.instanceMethod y ∈ tw_big) (hy : y.name = "<init>")
    (hM : CT l y b maxL none fr mc ms lc G M (.ref a :: As) post) (hn : As.length = n) (hW : (st.map fun v => v.category).sum ≤ 8) (hR : fr + 1 ≤ R.frames ∧ 8 + (maxL + 11) + lc ≤ R.locals) (hf : cells + mc ≤ R.cells ∧ slots + ms ≤ R.slots) (hd : decode cc pc = .ok (.invokespecial idx, 3)) {st0 : List Value} (hst : st0 = As.reverse ++ .ref a :: st)
    (kk : ∀ (v : Option Value) (M' : Mem), post v M' → V p l e R s m args below meth c G Q nL M' (cells + mc) (slots + ms) (pc + 3) lo (v.toList ++ st)) : V p l e R s m args below meth c G Q nL M cells slots pc lo st0 := by
  intro H locs ls h1 h2 h3
  subst hst
  exact Ke.go (va_runI (As := As) (rest := st) (g := F0 m pc ls (As.reverse ++ .ref a :: st)) ⟨Cc.1, Cc.2.1, Cc.2.2.2.2.2.2.2.1, Cc.2.2.1, Cc.2.2.2.1⟩ hM ⟨CT.cb Cc.2.2.2.1 L hR, hy, Cc.2.2.2.1 _ hi⟩ ⟨Kn.blind G M _, fun U hU hW' => Cc.kn hgX h1 h2 U hU hW'⟩ rfl hn h3.1 rfl (lv_room hW) hd hf) h2 h3 kk
theorem r_objInit (Cc : Cx p l s m args meth c G own cc nL) {a : Nat} (hl : Cond.methodLink own idx objectInit ∈ tw_big) (hi : Cond.instanceMethod objectInit ∈ tw_big) (hc : Cond.code objectInit ⟨#[0xb1]⟩ 1 none ∈ tw_big) (hd : decode cc pc = .ok (.invokespecial idx, 3)) (hW : (st.map fun v => v.category).sum + 12 ≤ R.locals) (hF : 1 ≤ R.frames)
    (kk : V p l e R s m args below meth c G Q nL M cells slots (pc + 3) lo st) : V p l e R s m args below meth c G Q nL M cells slots pc lo (.ref a :: st) := by
  intro H locs ls h1 h2 h3
  refine W.objInit Cc.1 Cc.2.1 Cc.2.2.1 (Cc.2.2.2.1 _ hl) (Cc.2.2.2.1 _ hi) (Cc.2.2.2.1 _ hc) rfl (by rw [Cc.2.2.2.2.2.2.2.1]; exact h3.1) rfl hd hF ?_ (kk H locs ls h1 h2 h3)
  show 2 * 0 + _ + 12 ≤ _
  omega
-- ends
theorem Ke.of {v : Option Value} {H : Heap} {locs : List Loc} (h1 : gRel G M H) (h2 : va_S (gA G) s.heap H locs) (hp : post v M) (a : Array Value) (t : State) (ht : t.heap = H) : Ke G post a s (.returned v) t := ⟨⟨v, M, rfl, hp, by rw [ht]; exact h1⟩, h2.F ht⟩
theorem r_iret {x : Int32} (Cc : Cx p l s m args meth c G own cc nL) (hr : meth.sig.returnType = some .int) (hp : post (some (.int x)) M) (hc : cells ≤ mc) (hs : slots ≤ ms) (hd : decode cc pc = .ok (.ireturn, 1)) : V p l e R s m args below meth c G (MQ below (Ke G post) args s mc ms (gA G)) nL M cells slots pc lo [.int x] :=
  fun _ _ _ h1 h2 _ => W.widen hc hs (W.iret Cc.1 Cc.2.1 hr (fun t ht _ => Ke.of h1 h2 hp _ t ht) h2.2.2 hd Cc.2.2.2.2.2.2.1)
theorem r_zret {x : Int32} (Cc : Cx p l s m args meth c G own cc nL) (hr : meth.sig.returnType = some .boolean) (hx : x = 0 ∨ x = 1) (hp : post (some (.int x)) M) (hc : cells ≤ mc) (hs : slots ≤ ms) (hd : decode cc pc = .ok (.ireturn, 1)) : V p l e R s m args below meth c G (MQ below (Ke G post) args s mc ms (gA G)) nL M cells slots pc lo [.int x] :=
  fun _ _ _ h1 h2 _ => W.widen hc hs (W.zret Cc.1 Cc.2.1 hr (by rcases hx with rfl | rfl <;> rfl) (fun t ht _ => Ke.of h1 h2 hp _ t ht) h2.2.2 hd Cc.2.2.2.2.2.2.1)
theorem r_lret {x : Int64} (Cc : Cx p l s m args meth c G own cc nL) (hr : meth.sig.returnType = some .long) (hp : post (some (.long x)) M) (hc : cells ≤ mc) (hs : slots ≤ ms) (hd : decode cc pc = .ok (.lreturn, 1)) : V p l e R s m args below meth c G (MQ below (Ke G post) args s mc ms (gA G)) nL M cells slots pc lo [.long x] :=
  fun _ _ _ h1 h2 _ => W.widen hc hs (W.lret Cc.1 Cc.2.1 hr (fun t ht _ => Ke.of h1 h2 hp _ t ht) h2.2.2 hd Cc.2.2.2.2.2.2.1)
theorem r_vret (Cc : Cx p l s m args meth c G own cc nL) (hr : meth.sig.returnType = none) (hp : post none M) (hc : cells ≤ mc) (hs : slots ≤ ms) (hd : decode cc pc = .ok (.return_, 1)) : V p l e R s m args below meth c G (MQ below (Ke G post) args s mc ms (gA G)) nL M cells slots pc lo [] :=
  fun _ _ _ h1 h2 _ => W.widen hc hs (W.vret Cc.1 Cc.2.1 hr (fun t ht _ => Ke.of h1 h2 hp _ t ht) h2.2.2 hd Cc.2.2.2.2.2.2.1)
theorem r_aret {a : Nat} {rt : FieldType} (Cc : Cx p l s m args meth c G own cc nL) (hr : meth.sig.returnType = some rt) (hrt : (∃ n, rt = .object n) ∨ ∃ t, rt = .array t) (hp : post (some (.ref a)) M) (hc : cells ≤ mc) (hs : slots ≤ ms) (hd : decode cc pc = .ok (.areturn, 1)) : V p l e R s m args below meth c G (MQ below (Ke G post) args s mc ms (gA G)) nL M cells slots pc lo [.ref a] :=
  fun _ _ _ h1 h2 _ => W.widen hc hs (W.aret Cc.1 Cc.2.1 hr hrt (Or.inr ⟨a, rfl⟩) (fun t ht _ => Ke.of h1 h2 hp _ t ht) h2.2.2 hd Cc.2.2.2.2.2.2.1)
theorem r_lcmp {x z : Int64} (Cc : Cx p l s m args meth c G own cc nL) (hd : decode cc pc = .ok (.lcmp, 1)) (k : V p l e R s m args below meth c G Q nL M cells slots (pc + 1) lo (.int (lg_cmp x z) :: st)) : V p l e R s m args below meth c G Q nL M cells slots pc lo (.long z :: .long x :: st) := fun H locs ls h1 h2 h3 => W.lcmp Cc.1 Cc.2.1 hd (k H locs ls h1 h2 h3)
end RowsC
/-- a contract out of a walk -/
theorem CT.of {l : Launch} {y : MethodName} {b : ByteArray} {n : Nat} {ret : Option FieldType} {fr mc ms lc : Nat} {G : gW} {M : Mem} {av : List Value} {post : Option Value → Mem → Prop} (hfl : l.flags = flags0) (hy : plainName y.cls = true) (hn : (lg_sl av).length ≤ n)
    (body : ∀ (p : Program) (e : Env) (s : State) (m : MethodId) (args : Array Value) (below : List Frame) (meth : Method) (c : Code), Cx p l s m args meth c G y.cls b n → gX G s s.heap → meth.sig.returnType = ret → (y.name = "<init>" → meth.name = "<init>") →
      V p l e ({ frames := fr, cells := mc, slots := ms, locals := lc } : Room) s m args below meth c G (MQ below (Ke G post) args s mc ms (gA G)) n M 0 0 0 (lv_args 0 av) []) : CT l y b n ret fr mc ms lc G M av post := by
  refine Met.ofW (cc := b) (maxL := n) (ret := ret) hy rfl ?_
  intro p e s m args below meth c s₁ B hml hv
  obtain ⟨rfl, hK, hM, hB, hX⟩ := hv
  have hts := atoms_spec (ws := Cond.code y b n ret :: tw_big) B.pre
  have hown : s.vm.findClass y.cls = some m.cls := findClass_of_methodNamed B.named
  have hl := lv_entry av (n := n) hn
  rw [lg_entry_eq]
  exact body p e s m av.toArray below meth c ⟨B.exec, B.bytes, hown, fun w hw => hts w (List.mem_cons_of_mem _ hw), hK, hB, B.notSynchronized, hml, hfl⟩ hX B.returns (fun h => by rw [← h]; exact (name_of_methodNamed B.named B.method).1) s.heap [] _ hM va_S.rf hl
