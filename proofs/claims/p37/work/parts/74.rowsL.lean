/-! ROWS for lists: the empty array's static, class objects, equal references -/
theorem gl_39 : Cond.fieldLink RJx4a65c 39 "java/util/ArrayList" "DEFAULTCAPACITY_EMPTY_ELEMENTDATA" "[Ljava/lang/Object;" ∈ tw_big := tw_i 55 (by decide +kernel) rfl
theorem gc_sel : Cond.selects "[Ljava/lang/Object;" ⟨"java/lang/Object", "getClass", "()Ljava/lang/Class;"⟩ ⟨"java/lang/Object", "getClass", "()Ljava/lang/Class;"⟩ ∈ tw_big := tw_i 1372 (by decide +kernel) rfl
theorem gc_im : Cond.instanceMethod ⟨"java/lang/Object", "getClass", "()Ljava/lang/Class;"⟩ ∈ tw_big := tw_i 579 (by decide +kernel) rfl
theorem gc_nat : Cond.native ⟨"java/lang/Object", "getClass", "()Ljava/lang/Class;"⟩ ∈ tw_big := tw_i 598 (by decide +kernel) rfl
theorem gc_l : Cond.methodLink RJ7 86 ⟨"java/lang/Object", "getClass", "()Ljava/lang/Class;"⟩ ∈ tw_big := tw_i 578 (by decide +kernel) rfl
section RowsL
variable {p : Program} {l : Launch} {e : Env} {R : Room} {s : State} {m : MethodId} {args : Array Value} {below : List Frame} {meth : Method} {c : Code} {G : gW} {own : String} {cc : ByteArray} {Q : State → Prop} {nL : Nat} {M : Mem} {cells slots pc : Nat} {lo : List (Nat × Value)} {st : List Value}
theorem r_gets0 (Cc : Cx p l s m args meth c G own cc nL) (hgX : gX G s s.heap) (hl : Cond.fieldLink own 39 "java/util/ArrayList" "DEFAULTCAPACITY_EMPTY_ELEMENTDATA" "[Ljava/lang/Object;" ∈ tw_big) (hd : decode cc pc = .ok (.getstatic 39, 3))
    (kk : V p l e R s m args below meth c G Q nL M cells slots (pc + 3) lo (.ref (gS G 0) :: st)) : V p l e R s m args below meth c G Q nL M cells slots pc lo st :=
  fun H locs ls h1 h2 h3 => va_gets Cc.1 Cc.2.1 hgX.1 h2 Cc.2.2.1 (Cc.2.2.2.1 _ hl) (fun x hx => hx) hd (kk H locs ls h1 h2 h3)
theorem r_alen0 (Cc : Cx p l s m args meth c G own cc nL) (hgX : gX G s s.heap) (hd : decode cc pc = .ok (.arraylength, 1))
    (kk : V p l e R s m args below meth c G Q nL M cells slots (pc + 1) lo (.int (nI 0) :: st)) : V p l e R s m args below meth c G Q nL M cells slots pc lo (.ref (gS G 0) :: st) :=
  fun H locs ls h1 h2 h3 => va_tlen Cc.1 Cc.2.1 hgX.2.1 h2 rfl hd (kk H locs ls h1 h2 h3)
theorem r_acmp_eq (Cc : Cx p l s m args meth c G own cc nL) {x y : Nat} {off : Int} {t : Nat} (hd : decode cc pc = .ok (.if_acmp .eq off, 3)) (ht : (pc : Int) + off = (t : Int))
    (k1 : x = y → V p l e R s m args below meth c G Q nL M cells slots t lo st) (k2 : ¬ x = y → V p l e R s m args below meth c G Q nL M cells slots (pc + 3) lo st) : V p l e R s m args below meth c G Q nL M cells slots pc lo (.ref y :: .ref x :: st) :=
  fun H locs ls h1 h2 h3 => lv_acmp_eq (rx := some x) (ry := some y) Cc.1 Cc.2.1 hd ht (fun z => k1 (Option.some.inj z) H locs ls h1 h2 h3) (fun z => k2 (fun q => z (by rw [q])) H locs ls h1 h2 h3)
theorem r_acmp_ne (Cc : Cx p l s m args meth c G own cc nL) {x y : Nat} {off : Int} {t : Nat} (hd : decode cc pc = .ok (.if_acmp .ne off, 3)) (ht : (pc : Int) + off = (t : Int))
    (k1 : ¬ x = y → V p l e R s m args below meth c G Q nL M cells slots t lo st) (k2 : x = y → V p l e R s m args below meth c G Q nL M cells slots (pc + 3) lo st) : V p l e R s m args below meth c G Q nL M cells slots pc lo (.ref y :: .ref x :: st) :=
  fun H locs ls h1 h2 h3 => lv_acmp_ne (rx := some x) (ry := some y) Cc.1 Cc.2.1 hd ht (fun z => k1 (fun q => z (by rw [q])) H locs ls h1 h2 h3) (fun z => k2 (Option.some.inj z) H locs ls h1 h2 h3)
theorem r_ldcM (Cc : Cx p l s m args meth c G own cc nL) (hgX : gX G s s.heap) {idx : Nat} (hl : Cond.classLink own idx "[Ljava/lang/Object;" ∈ tw_big) (hd : decode cc pc = .ok (.ldc idx, 2))
    (kk : V p l e R s m args below meth c G Q nL M cells slots (pc + 2) lo (.ref (gS G 4) :: st)) : V p l e R s m args below meth c G Q nL M cells slots pc lo st :=
  fun H locs ls h1 h2 h3 => va_ldcM Cc.1 Cc.2.1 Cc.2.2.1 (Cc.2.2.2.1 _ hl) hgX.2.2.2.2.2.1.2.2.2.2.2.2 hd (kk H locs ls h1 h2 h3)
theorem r_getCl (Cc : Cx p l s m args meth c G own cc nL) (hgX : gX G s s.heap) {a : Nat} (hk : mK M a = 26) (hF : 1 ≤ R.frames) (hlc : (st.map fun v => v.category).sum + 14 ≤ R.locals) (hd : decode cc pc = .ok (.invokevirtual 86, 3)) (hl : Cond.methodLink own 86 ⟨"java/lang/Object", "getClass", "()Ljava/lang/Class;"⟩ ∈ tw_big)
    (kk : V p l e R s m args below meth c G Q nL M cells slots (pc + 3) lo (.ref (gS G 4) :: st)) : V p l e R s m args below meth c G Q nL M cells slots pc lo (.ref a :: st) := by
  intro H locs ls h1 h2 h3
  have ha := (h1 a).2.2.2.2.2.1 3 (by decide) hk
  have hRA := (Cc.2.2.2.2.1.2 6 _ (gTys_at G (by decide))).2
  exact va_getC Cc.1 Cc.2.1 (by rw [Cc.2.2.2.2.2.2.2.1]; exact h3.1.symm) Cc.2.2.1 (Cc.2.2.2.1 _ hl) (va_Dc.use hgX.2.2.2.2.2.1.2.2.2.2.2.1) (C := "[Ljava/lang/Object;") (Cc.2.2.2.1 _ gc_sel) (Cc.2.2.2.1 _ gc_im) (Cc.2.2.2.1 _ gc_nat) hgX.2.2.2.2.2.1.2.2.2.2.2.2 ⟨_, ha, rfl, va_nmO hRA rfl⟩ hF hlc hd (kk H locs ls h1 h2 h3)
end RowsL
