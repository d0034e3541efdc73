/-! ROWS: System.arraycopy -/
def wCpI (M : Mem) (a0 a sp dp n : Nat) : Mem := (M.1, M.2.1, va_up M.2.2.1 a (va_cpy (M.2.2.1 a0) (M.2.2.1 a) sp dp n), M.2.2.2.1, M.2.2.2.2)
def wCpR (M : Mem) (a0 a sp dp n : Nat) : Mem := (M.1, M.2.1, M.2.2.1, M.2.2.2.1, va_up M.2.2.2.2 a (va_cpy (M.2.2.2.2 a0) (M.2.2.2.2 a) sp dp n))
def AC (own : String) (idx : Nat) : Prop := Cond.methodLink own idx arraycopyName ∈ tw_big ∧ Cond.native arraycopyName ∈ tw_big ∧ Cond.static arraycopyName ∈ tw_big ∧ Cond.initialized "java/lang/System" ∈ tw_big
theorem gRel.arr_ref {G : gW} {M : Mem} {H : Heap} (h : gRel G M H) {y ci : Nat} {r : vw_C} (hc : vwCl[ci]? = some r) (hk : mK M y = ci + 1) : ∃ cell : Cell, H[y]? = some cell ∧ cell.vm.isStatics = false ∧ cell.cls = (gD G).1 ci := by
  obtain ⟨cell, g1, g2, g3, -⟩ := (h y).2.1 ci r hc hk
  exact ⟨cell, g1, by rw [g3]; rfl, g2⟩
section RowsCp
variable {p : Program} {l : Launch} {e : Env} {R : Room} {s : State} {m : MethodId} {args : Array Value} {below : List Frame} {meth : Method} {c : Code} {G : gW} {own : String} {cc : ByteArray} {Q : State → Prop} {nL : Nat} {M : Mem} {cells slots pc : Nat} {lo : List (Nat × Value)} {st : List Value}
theorem nn_i {n : Nat} (h : n < 2 ^ 31) : (nI n).toInt = ((nI n).toNatClampNeg : Int) := by rw [nI_toInt h, nI_clamp h]
theorem r_cpI (Cc : Cx p l s m args meth c G own cc nL) {idx a0 a sp dp n n0 n1 : Nat} (L : AC own idx) (hk0 : mK M a0 = 20) (hk1 : mK M a = 20) (hn0 : mN M a0 = n0) (hn1 : mN M a = n1) (b0 : sp + n ≤ n0) (b1 : dp + n ≤ n1) (hb : sp + n < 2 ^ 31) (hb2 : dp + n < 2 ^ 31)
    (hF : 1 ≤ R.frames) (hl : (st.map fun v => v.category).sum + (nativeFrameWords "java/lang/System" "arraycopy" 5 + 11) ≤ R.locals) (hd : decode cc pc = .ok (.invokestatic idx, 3))
    (kk : V p l e R s m args below meth c G Q nL (wCpI M a0 a sp dp n) cells slots (pc + 3) lo st) : V p l e R s m args below meth c G Q nL M cells slots pc lo (.int (nI n) :: .int (nI dp) :: .ref a :: .int (nI sp) :: .ref a0 :: st) := by
  intro H locs ls h1 h2 h3 T hT X
  have hc0 := (h1 a0).2.2.1 hk0
  have hc1 := (h1 a).2.2.1 hk1
  have cs := nI_clamp (n := sp) (by omega)
  have cd := nI_clamp (n := dp) (by omega)
  have cn := nI_clamp (n := n) (by omega)
  obtain ⟨-, k0, hk0', cm0, hkk0⟩ := (Cc.2.2.2.2.1.2 0 _ (gTys_at G (by decide))).1 (mN M a0) (fun j => .int (mI M a0 j))
  obtain ⟨-, k1, hk1', cm1, hkk1⟩ := (Cc.2.2.2.2.1.2 0 _ (gTys_at G (by decide))).1 (mN M a) (fun j => .int (mI M a j))
  obtain ⟨vm', X', step⟩ := X.arraycopy Cc.1 Cc.2.2.1 (Cc.2.2.2.1 _ L.1) (Cc.2.2.2.1 _ L.2.1) (Cc.2.2.2.1 _ L.2.2.1) (Cc.2.2.2.1 _ L.2.2.2) (src := a0) (dst := a) (cs := arrV (gT G 0) (mN M a0) (fun j => .int (mI M a0 j))) (cd := arrV (gT G 0) (mN M a) (fun j => .int (mI M a j))) (srcPos := nI sp) (destPos := nI dp) (n := nI n) (by rw [hT]; exact hc0) (by rw [hT]; exact hc1)
    (fun _ h => by cases h) (fun _ h => by cases h) (fun h => by cases h) (fun h => by cases h) hk0' hk1' hkk0 hkk1 (by simp [gA1, refKind]) (nI_pos (by omega)) (nI_pos (by omega)) (nI_pos (by omega))
    (by rw [nn_i (by omega), nn_i (by omega), arrV_size, cs, cn, hn0]; omega)
    (by rw [nn_i (by omega), nn_i (by omega), arrV_size, cd, cn, hn1]; omega)
    (fun vm₁ _ i hi => by
      have e : (arrV (gT G 0) (mN M a0) (fun j => .int (mI M a0 j))).slots.getD ((nI sp).toNatClampNeg + i) .null = .int (mI M a0 ((nI sp).toNatClampNeg + i)) := by
        rw [Array.getD_eq_getD_getElem?, arrV_read _ _ (by rw [cs, hn0]; rw [cn] at hi; omega)]
        rfl
      refine ⟨?_, ?_⟩
      · rw [e]
        rfl
      · rw [e]
        exact trivial)
    (g := F0 m pc ls (.int (nI n) :: .int (nI dp) :: .ref a :: .int (nI sp) :: .ref a0 :: st)) rfl (by rw [Cc.2.2.2.2.2.2.2.1]; exact h3.1) (rest := st) rfl (by rw [Cc.2.1]; exact hd) hF (by show 2 * 0 + _ + _ ≤ _; omega)
  have e1 : copied (arrV (gT G 0) (mN M a0) (fun j => .int (mI M a0 j))) (arrV (gT G 0) (mN M a) (fun j => .int (mI M a j))) (nI sp) (nI dp) (nI n) = arrV (gT G 0) (mN M a) (fun j => .int (va_cpy (mI M a0) (mI M a) sp dp n j)) := by
    have z := va_copied (fun z => Value.int z) (gT G 0) (gT G 0) (n0 := mN M a0) (n1 := mN M a) (sp := (nI sp).toNatClampNeg) (dp := (nI dp).toNatClampNeg) (n := (nI n).toNatClampNeg) (mI M a0) (mI M a) (by rw [cs, cn, hn0]; exact b0)
    rw [cs, cd, cn] at z
    show (arrV _ _ _).storeRun (nI dp).toNatClampNeg (Cell.stretch _ (nI sp).toNatClampNeg (nI n).toNatClampNeg) = _
    rw [cs, cd, cn]
    exact z
  rw [e1] at X' step
  have hl0 : a < H.size := (Array.getElem?_eq_some_iff.mp hc1).1
  have hheap : ((T.setVm vm').setCell a (arrV (gT G 0) (mN M a) (fun j => .int (va_cpy (mI M a0) (mI M a) sp dp n j)))).heap = H.setIfInBounds a (arrV (gT G 0) (mN M a) (fun j => .int (va_cpy (mI M a0) (mI M a) sp dp n j))) := by rw [← hT]; rfl
  have oq : ∀ q : Nat, q ≠ a → (H.setIfInBounds a (arrV (gT G 0) (mN M a) (fun j => .int (va_cpy (mI M a0) (mI M a) sp dp n j))))[q]? = H[q]? := fun q hq => by simp [Array.getElem?_setIfInBounds, Ne.symm hq]
  have ea : (H.setIfInBounds a (arrV (gT G 0) (mN M a) (fun j => .int (va_cpy (mI M a0) (mI M a) sp dp n j))))[a]? = some (arrV (gT G 0) (mN M a) (fun j => .int (va_cpy (mI M a0) (mI M a) sp dp n j))) := by simp [Array.getElem?_setIfInBounds, hl0]
  have hR : gRel G (wCpI M a0 a sp dp n) (H.setIfInBounds a (arrV (gT G 0) (mN M a) (fun j => .int (va_cpy (mI M a0) (mI M a) sp dp n j)))) := by
    refine h1.setArr hk1 (by decide) (fun b hb => ⟨rfl, rfl, va_up_ne _ _ hb, rfl, rfl⟩) rfl (by simp) oq (fun _ => ?_) (fun q => by omega) (fun q => by omega) (fun j hj q => by omega)
    rw [ea]
    have : mI (wCpI M a0 a sp dp n) a = va_cpy (mI M a0) (mI M a) sp dp n := va_up_self _ _ _
    rw [this]
    rfl
  obtain ⟨t, a1, b1⟩ := kk _ _ ls hR ⟨by simp; exact h2.1, fun q g1 g2 => by
      rw [oq q (fun e => g2 (by rw [e]; exact h1.base (by rw [hk1]; decide)))]
      exact h2.2.1 q g1 g2, fun q hq => by
      rcases List.mem_append.mp hq with h | h
      · exact h2.2.2 q h
      · obtain ⟨z, -, hz⟩ := List.mem_map.mp h
        rw [← hz]
        exact h1.base (by rw [hk1]; decide)⟩ h3 _ hheap X'
  exact ⟨t, step t a1, b1⟩
/-- references of one class, between lists' arrays (the same one too) -/
theorem r_cpR (Cc : Cx p l s m args meth c G own cc nL) (hgX : gX G s s.heap) {idx a0 a sp dp n n0 n1 ci : Nat} {r : vw_C} (L : AC own idx) (hk0 : mK M a0 = 26) (hk1 : mK M a = 26) (hn0 : mN M a0 = n0) (hn1 : mN M a = n1) (b0 : sp + n ≤ n0) (b1 : dp + n ≤ n1) (hb : sp + n < 2 ^ 31) (hb2 : dp + n < 2 ^ 31)
    (hc : vwCl[ci]? = some r) (hx : r.1 ∈ gxC) (hel : ∀ i, i < n → ∀ y, mR M a0 (sp + i) = some y → mK M y = ci + 1)
    (hF : 1 ≤ R.frames) (hl : (st.map fun v => v.category).sum + (nativeFrameWords "java/lang/System" "arraycopy" 5 + 11) ≤ R.locals) (hd : decode cc pc = .ok (.invokestatic idx, 3))
    (kk : V p l e R s m args below meth c G Q nL (wCpR M a0 a sp dp n) cells slots (pc + 3) lo st) : V p l e R s m args below meth c G Q nL M cells slots pc lo (.int (nI n) :: .int (nI dp) :: .ref a :: .int (nI sp) :: .ref a0 :: st) := by
  intro H locs ls h1 h2 h3 T hT X
  have hc0 := (h1 a0).2.2.2.2.2.1 3 (by decide) hk0
  have hc1 := (h1 a).2.2.2.2.2.1 3 (by decide) hk1
  have cs := nI_clamp (n := sp) (by omega)
  have cd := nI_clamp (n := dp) (by omega)
  have cn := nI_clamp (n := n) (by omega)
  obtain ⟨-, k0, hk0', cm0, hkk0⟩ := (Cc.2.2.2.2.1.2 6 _ (gTys_at G (by decide))).1 (mN M a0) (fun j => va_rf (mR M a0 j))
  obtain ⟨-, k1, hk1', cm1, hkk1⟩ := (Cc.2.2.2.2.1.2 6 _ (gTys_at G (by decide))).1 (mN M a) (fun j => va_rf (mR M a j))
  have hcls := (Cc.2.2.2.2.1.1 ci r hc).2
  obtain ⟨vm', X', step⟩ := X.arraycopy Cc.1 Cc.2.2.1 (Cc.2.2.2.1 _ L.1) (Cc.2.2.2.1 _ L.2.1) (Cc.2.2.2.1 _ L.2.2.1) (Cc.2.2.2.1 _ L.2.2.2) (src := a0) (dst := a) (cs := arrV (gT G 6) (mN M a0) (fun j => va_rf (mR M a0 j))) (cd := arrV (gT G 6) (mN M a) (fun j => va_rf (mR M a j))) (srcPos := nI sp) (destPos := nI dp) (n := nI n) (by rw [hT]; exact hc0) (by rw [hT]; exact hc1)
    (fun _ h => by cases h) (fun _ h => by cases h) (fun h => by cases h) (fun h => by cases h) hk0' hk1' hkk0 hkk1 rfl (nI_pos (by omega)) (nI_pos (by omega)) (nI_pos (by omega))
    (by rw [nn_i (by omega), nn_i (by omega), arrV_size, cs, cn, hn0]; omega)
    (by rw [nn_i (by omega), nn_i (by omega), arrV_size, cd, cn, hn1]; omega)
    (fun vm₁ hal i hi => by
      rw [cn] at hi
      have e : (arrV (gT G 6) (mN M a0) (fun j => va_rf (mR M a0 j))).slots.getD ((nI sp).toNatClampNeg + i) .null = va_rf (mR M a0 (sp + i)) := by
        rw [cs, Array.getD_eq_getD_getElem?, arrV_read _ _ (by rw [hn0]; omega)]
        rfl
      rw [e]
      cases hy : mR M a0 (sp + i) with
      | none => exact ⟨rfl, trivial⟩
      | some y =>
        obtain ⟨cellV, g1, g2, g3⟩ := h1.arr_ref hc (hel i hi y hy)
        obtain ⟨kA, comp, r1, r2, r3, -⟩ := (Cc.2.2.2.2.1.2 6 _ (gTys_at G (by decide))).2
        cases hk1'.symm.trans r1
        cases hkk1.symm.trans r2
        obtain ⟨c0, t1, f1, f2, f3⟩ := Cond.castable_spec (va_Nw.use (A := args) rfl (hgX.2.2.2.2.2.2.1 _ hx))
        cases hcls.1.symm.trans f1
        cases r3.symm.trans f2
        obtain ⟨kC, hkC, -⟩ := Vm.findClass_spec f1
        obtain ⟨kE, hkE, -⟩ := Vm.findClass_spec f2
        obtain ⟨kC', hkC', -⟩ := hal.2.2 _ _ hkC
        obtain ⟨kE', hkE', -⟩ := hal.2.2 _ _ hkE
        refine ⟨rfl, cellV, (show T.heap[y]? = some cellV by rw [hT]; exact g1), (fun q h => by rw [h] at g2; cases g2), ⟨kC', by rw [g3]; exact hkC'⟩, ?_, ?_⟩
        · exact ⟨kE', hkE'⟩
        · show vm₁.assignable _ _ = true
          rw [hal.assignable, g3]
          exact f3)
    (g := F0 m pc ls (.int (nI n) :: .int (nI dp) :: .ref a :: .int (nI sp) :: .ref a0 :: st)) rfl (by rw [Cc.2.2.2.2.2.2.2.1]; exact h3.1) (rest := st) rfl (by rw [Cc.2.1]; exact hd) hF (by show 2 * 0 + _ + _ ≤ _; omega)
  have e1 : copied (arrV (gT G 6) (mN M a0) (fun j => va_rf (mR M a0 j))) (arrV (gT G 6) (mN M a) (fun j => va_rf (mR M a j))) (nI sp) (nI dp) (nI n) = arrV (gT G 6) (mN M a) (fun j => va_rf (va_cpy (mR M a0) (mR M a) sp dp n j)) := by
    have z := va_copied (fun z => va_rf z) (gT G 6) (gT G 6) (n0 := mN M a0) (n1 := mN M a) (sp := (nI sp).toNatClampNeg) (dp := (nI dp).toNatClampNeg) (n := (nI n).toNatClampNeg) (mR M a0) (mR M a) (by rw [cs, cn, hn0]; exact b0)
    rw [cs, cd, cn] at z
    show (arrV _ _ _).storeRun (nI dp).toNatClampNeg (Cell.stretch _ (nI sp).toNatClampNeg (nI n).toNatClampNeg) = _
    rw [cs, cd, cn]
    exact z
  rw [e1] at X' step
  have hl0 : a < H.size := (Array.getElem?_eq_some_iff.mp hc1).1
  have hheap : ((T.setVm vm').setCell a (arrV (gT G 6) (mN M a) (fun j => va_rf (va_cpy (mR M a0) (mR M a) sp dp n j)))).heap = H.setIfInBounds a (arrV (gT G 6) (mN M a) (fun j => va_rf (va_cpy (mR M a0) (mR M a) sp dp n j))) := by rw [← hT]; rfl
  have oq : ∀ q : Nat, q ≠ a → (H.setIfInBounds a (arrV (gT G 6) (mN M a) (fun j => va_rf (va_cpy (mR M a0) (mR M a) sp dp n j))))[q]? = H[q]? := fun q hq => by simp [Array.getElem?_setIfInBounds, Ne.symm hq]
  have ea : (H.setIfInBounds a (arrV (gT G 6) (mN M a) (fun j => va_rf (va_cpy (mR M a0) (mR M a) sp dp n j))))[a]? = some (arrV (gT G 6) (mN M a) (fun j => va_rf (va_cpy (mR M a0) (mR M a) sp dp n j))) := by simp [Array.getElem?_setIfInBounds, hl0]
  have hR : gRel G (wCpR M a0 a sp dp n) (H.setIfInBounds a (arrV (gT G 6) (mN M a) (fun j => va_rf (va_cpy (mR M a0) (mR M a) sp dp n j)))) := by
    refine h1.setArr hk1 (by decide) (fun b hb => ⟨rfl, rfl, rfl, rfl, va_up_ne _ _ hb⟩) rfl (by simp) oq (fun q => by omega) (fun q => by omega) (fun q => by omega) (fun j hj q => ?_)
    have e9 : j = 3 := by omega
    subst e9
    rw [ea]
    have : mR (wCpR M a0 a sp dp n) a = va_cpy (mR M a0) (mR M a) sp dp n := va_up_self _ _ _
    rw [this]
    rfl
  obtain ⟨t, a1, b1⟩ := kk _ _ ls hR ⟨by simp; exact h2.1, fun q g1 g2 => by
      rw [oq q (fun e => g2 (by rw [e]; exact h1.base (by rw [hk1]; decide)))]
      exact h2.2.1 q g1 g2, fun q hq => by
      rcases List.mem_append.mp hq with h | h
      · exact h2.2.2 q h
      · obtain ⟨z, -, hz⟩ := List.mem_map.mp h
        rw [← hz]
        exact h1.base (by rw [hk1]; decide)⟩ h3 _ hheap X'
  exact ⟨t, step t a1, b1⟩
end RowsCp
theorem ac_J7_150 : AC RJ7 150 := ⟨tw_i 608 (by decide +kernel) rfl, tw_i 610 (by decide +kernel) rfl, tw_i 609 (by decide +kernel) rfl, tw_i 21 (by decide +kernel) rfl⟩
theorem ac_J0_212 : AC RJ0 212 := ⟨tw_i 816 (by decide +kernel) rfl, tw_i 610 (by decide +kernel) rfl, tw_i 609 (by decide +kernel) rfl, tw_i 21 (by decide +kernel) rfl⟩
theorem ac_Jx4a65c_112 : AC RJx4a65c 112 := ⟨tw_i 913 (by decide +kernel) rfl, tw_i 610 (by decide +kernel) rfl, tw_i 609 (by decide +kernel) rfl, tw_i 21 (by decide +kernel) rfl⟩
theorem ac_X4_50 : AC RX4 50 := ⟨tw_i 960 (by decide +kernel) rfl, tw_i 610 (by decide +kernel) rfl, tw_i 609 (by decide +kernel) rfl, tw_i 21 (by decide +kernel) rfl⟩

