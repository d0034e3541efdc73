section RowsMu
variable {p : Program} {l : Launch} {e : Env} {R : Room} {s : State} {m : MethodId} {args : Array Value} {below : List Frame} {meth : Method} {c : Code} {G : gW} {own : String} {cc : ByteArray} {Q : State → Prop} {nL : Nat} {M : Mem} {cells slots pc : Nat} {lo : List (Nat × Value)} {st : List Value}
theorem ra_out {s : State} {a b : ClassId} {j : Nat} (hj : j < 2) (h : va_RA s a (gA1 (7 + j))) (f : s.vm.findClass ("[" ++ (FieldType.array (gA1 j)).toString) = some b) : b = a := by
  match j, hj, h, f with
  | 0, _, h, f => exact Option.some.inj (f.symm.trans h)
  | 1, _, h, f => exact Option.some.inj (f.symm.trans h)
theorem ra_in {s : State} {a b : ClassId} {j : Nat} (hj : j < 2) (h : va_RA s a (gA1 j)) (f : s.vm.findClass (FieldType.array (gA1 j)).toString = some b) : b = a := by
  match j, hj, h, f with
  | 0, _, h, f => exact Option.some.inj (f.symm.trans h)
  | 1, _, h, f => exact Option.some.inj (f.symm.trans h)
theorem inner_eq {c : ClassId} {k j : Nat} (hj : j < 2) : Jvm.Free.Multi.innerC c k (defaultValue (gA1 j)) = arrV c k (fun _ => if j = 0 then .int 0 else .long 0) := by
  show ({ cls := c, slots := Array.replicate k (defaultValue (gA1 j)), vm := .none } : Cell) = _
  rw [arrV_new]
  match j, hj with
  | 0, _ => rfl
  | 1, _ => rfl
theorem vr_out (c : ClassId) (N h0 : Nat) : ∀ i : Nat, Jvm.Free.Multi.outerC c N h0 i = arrV c N (fun j => va_rf (if j < i then some (h0 + 1 + j) else none)) := vr_outer c N h0
theorem r_multi (Cc : Cx p l s m args meth c G own cc nL) (hgX : gX G s s.heap) {idx q n k j : Nat} (hj : j < 2) (hcl : Cond.classLink own idx ("[" ++ (FieldType.array (gA1 j)).toString) ∈ tw_big) (hO : FieldType.array (gA1 j) ∈ gxO) (hac : Cond.arrayClass (gA1 j) ∈ tw_big) (hn : n < 2 ^ 15) (hk : k < 2 ^ 15) (hb : gB G ≤ q) (hkq : mK M q = 0) (hm : mN M q = 1) (hc : cells + (1 + n) ≤ R.cells) (hs : slots + (n + n * k) ≤ R.slots) (hd : decode cc pc = .ok (.multianewarray idx 2, 4))
    (kk : V p l e R s m args below meth c G Q nL (wMul M q (27 + j) (20 + j) n k) (cells + 1 + n) (slots + n + n * k) (pc + 4) lo (.ref q :: st)) : V p l e R s m args below meth c G Q nL M cells slots pc lo (.int (nI k) :: .int (nI n) :: st) := by
  intro H locs ls h1 h2 h3 T hT X
  have hq : H.size = q := (h1 q).2.2.2.2.2.2 hkq hm
  have cn : (nI n).toNatClampNeg = n := nI_clamp (by omega)
  have ck : (nI k).toNatClampNeg = k := nI_clamp (by omega)
  have hRO := (Cc.2.2.2.2.1.2 (7 + j) _ (gTys_at G (by omega))).2
  have hRI := (Cc.2.2.2.2.1.2 j _ (gTys_at G (by omega))).2
  have hcb : k * componentBytes (gA1 j) ≤ 536870912 := by
    match j, hj with
    | 0, _ => show k * 4 ≤ _; omega
    | 1, _ => show k * 8 ≤ _; omega
  obtain ⟨vm₁, cA, comp, -, fA, fC, -, -, X', step⟩ := X.multianewarray2F Cc.1 Cc.2.2.1 (Cc.2.2.2.1 _ hcl) (hgX.2.2.2.2.2.2.2 _ hO) (Cc.2.2.2.1 _ hac) (g := F0 m pc ls (.int (nI k) :: .int (nI n) :: st)) rfl (by rw [Cc.2.1]; exact hd) rfl (nI_pos (by omega)) (nI_pos (by omega)) (by rw [cn]; omega) (by rw [ck]; exact hcb) (by rw [ck]; omega)
    (by match j, hj with | 0, _ => rfl | 1, _ => rfl) (by match j, hj with | 0, _ => rfl | 1, _ => rfl) (by rw [cn]; exact hc) (by rw [cn, ck]; exact hs)
  rw [cn, ck] at X' step
  have eA : cA = gT G (7 + j) := ra_out hj hRO fA
  have eC : comp = gT G j := ra_in hj hRI fC
  subst eA
  subst eC
  have hTh : (T.setVm vm₁).heap = H := hT
  obtain ⟨f1, f2, -, -⟩ := Jvm.Free.Multi.fill_facts (T.setVm vm₁) (gT G (7 + j)) (gT G j) n k (defaultValue (gA1 j)) n
  have hold : ∀ x : Nat, x < H.size → (Jvm.Free.Multi.fill (T.setVm vm₁) (gT G (7 + j)) (gT G j) n k (defaultValue (gA1 j)) n).heap[x]? = H[x]? := fun x hx => by
    have z := Jvm.Free.Multi.fill_old (T.setVm vm₁) (gT G (7 + j)) (gT G j) n k (defaultValue (gA1 j)) (a := x) (by rw [hTh]; exact hx) n
    rw [hTh] at z
    exact z
  have hrow : ∀ i : Nat, i < n → (Jvm.Free.Multi.fill (T.setVm vm₁) (gT G (7 + j)) (gT G j) n k (defaultValue (gA1 j)) n).heap[H.size + 1 + i]? = some (arrV (gT G j) k (fun _ => if j = 0 then .int 0 else .long 0)) := fun i hi => by
    have z := Jvm.Free.Multi.fill_inner (T.setVm vm₁) (gT G (7 + j)) (gT G j) n k (defaultValue (gA1 j)) n i hi
    rw [hTh] at z
    rw [z, inner_eq hj]
  rw [hTh] at f1 f2
  rw [vr_out] at f2
  rw [hq] at f1 f2 hrow hold
  have hR := h1.mul hj hq hb (H1 := (Jvm.Free.Multi.fill (T.setVm vm₁) (gT G (7 + j)) (gT G j) n k (defaultValue (gA1 j)) n).heap) (by rw [f1]) hold f2 hrow
  have hS : va_S (gA G) s.heap (Jvm.Free.Multi.fill (T.setVm vm₁) (gT G (7 + j)) (gT G j) n k (defaultValue (gA1 j)) n).heap locs := ⟨Nat.le_trans h2.1 (by rw [hq, f1]; omega), fun x a1 a2 => (hold x (Nat.lt_of_lt_of_le a1 (by rw [← hq]; exact h2.1))).trans (h2.2.1 x a1 a2), h2.2.2⟩
  obtain ⟨t, a1, b1⟩ := kk _ locs ls hR hS h3 _ rfl X'
  refine ⟨t, step t ?_, b1⟩
  rw [show T.heap.size = q by rw [hT]; exact hq]
  exact a1
end RowsMu
