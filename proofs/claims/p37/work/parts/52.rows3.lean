/-! ROWS: casts, switches, references stored -/
section RowsR
variable {p : Program} {l : Launch} {e : Env} {R : Room} {s : State} {m : MethodId} {args : Array Value} {below : List Frame} {meth : Method} {c : Code} {G : gW} {own : String} {cc : ByteArray} {Q : State → Prop} {nL : Nat} {M : Mem} {cells slots pc : Nat} {lo : List (Nat × Value)} {st : List Value}
theorem r_cast (Cc : Cx p l s m args meth c G own cc nL) {idx ci a : Nat} {r : vw_C} (hc : vwCl[ci]? = some r) (hcl : Cond.classLink own idx r.1 ∈ tw_big) (hk : mK M a = ci + 1) (hd : decode cc pc = .ok (.checkcast idx, 3))
    (kk : V p l e R s m args below meth c G Q nL M cells slots (pc + 3) lo (.ref a :: st)) : V p l e R s m args below meth c G Q nL M cells slots pc lo (.ref a :: st) := by
  intro H locs ls h1 h2 h3
  obtain ⟨cell, g1, g2, g3, -⟩ := (h1 a).2.1 ci r hc hk
  have hcls := (Cc.2.2.2.2.1.1 ci r hc).2
  exact va_castS Cc.1 Cc.2.1 Cc.2.2.1 (Cc.2.2.2.1 _ hcl) hcls ⟨cell, g1, by rw [g3]; rfl, by rw [g2]; exact hcls.1⟩ hd (kk H locs ls h1 h2 h3)
theorem r_tabOut (Cc : Cx p l s m args meth c G own cc nL) {dflt a b : Int} {offs : Array Int} {len : Nat} {x : Int32} {t : Nat} (hd : decode cc pc = .ok (.tableswitch dflt a b offs, len)) (h : x.toInt < a ∨ b < x.toInt) (ht : (pc : Int) + dflt = (t : Int))
    (kk : V p l e R s m args below meth c G Q nL M cells slots t lo st) : V p l e R s m args below meth c G Q nL M cells slots pc lo (.int x :: st) :=
  fun H locs ls h1 h2 h3 => lv_tableOut Cc.1 Cc.2.1 hd h ht (kk H locs ls h1 h2 h3)
theorem r_tabIn (Cc : Cx p l s m args meth c G own cc nL) {dflt a b off : Int} {offs : Array Int} {len : Nat} {x : Int32} {t : Nat} (hd : decode cc pc = .ok (.tableswitch dflt a b offs, len)) (h1' : ¬ x.toInt < a) (h2' : ¬ b < x.toInt) (ho : offs[(x.toInt - a).toNat]? = some off) (ht : (pc : Int) + off = (t : Int))
    (kk : V p l e R s m args below meth c G Q nL M cells slots t lo st) : V p l e R s m args below meth c G Q nL M cells slots pc lo (.int x :: st) :=
  fun H locs ls h1 h2 h3 => lv_tableIn Cc.1 Cc.2.1 hd h1' h2' ho ht (kk H locs ls h1 h2 h3)
theorem r_aast (Cc : Cx p l s m args meth c G own cc nL) (hgX : gX G s s.heap) {a v i n j ci : Nat} {r : vw_C} {E : String} (hj : j < 6) (hk : mK M a = 23 + j) (hn : mN M a = n) (hb : n < 2 ^ 31) (hi : i < n) (hv : mK M v = ci + 1) (hc : vwCl[ci]? = some r) (hE : gA1 (3 + j) = .object E) (hcomp : E = r.1 ∨ (E = "java/lang/Object" ∧ r.1 ∈ gxC)) (hd : decode cc pc = .ok (.aastore, 1))
    (kk : V p l e R s m args below meth c G Q nL (wR M a i (some v)) cells slots (pc + 1) lo st) : V p l e R s m args below meth c G Q nL M cells slots pc lo (.ref v :: .int (nI i) :: .ref a :: st) := by
  intro H locs ls h1 h2 h3
  have ha := (h1 a).2.2.2.2.2.1 j hj hk
  obtain ⟨cellV, g1, g2, g3, -⟩ := (h1 v).2.1 ci r hc hv
  have hcls := (Cc.2.2.2.2.1.1 ci r hc).2
  have hRA := (Cc.2.2.2.2.1.2 (3 + j) _ (gTys_at G (by omega))).2
  rw [hE] at hRA
  obtain ⟨kA, comp, k1, k2, k3, -⟩ := hRA
  have hass : ∃ kC, s.vm.classes[comp]? = some kC ∧ s.vm.assignable ((gD G).1 ci) comp = true := by
    rcases hcomp with e | ⟨e, hx⟩
    · subst e
      have e2 : comp = (gD G).1 ci := Option.some.inj (k3.symm.trans hcls.1)
      subst e2
      obtain ⟨kC, hkC, -⟩ := hcls.2
      exact ⟨kC, hkC, va_assign hcls⟩
    · subst e
      obtain ⟨c0, t1, f1, f2, f3⟩ := Cond.castable_spec (va_Nw.use (A := args) rfl (hgX.2.2.2.2.2.2.1 _ hx))
      cases hcls.1.symm.trans f1
      cases k3.symm.trans f2
      obtain ⟨kE, hkE, -⟩ := Vm.findClass_spec k3
      exact ⟨kE, hkE, f3⟩
  obtain ⟨kC, hkC, hA⟩ := hass
  obtain ⟨kV, hkV, -⟩ := hcls.2
  refine W.aast Cc.1 Cc.2.1 ha (fun q h => by cases h) (fun h => by cases h) k1 k2 rfl hkC ⟨nI_pos (by omega), by show _ < (arrV _ _ _).slots.size; rw [arrV_size, nI_clamp (by omega), hn]; exact hi⟩ g1 (fun q h => by rw [g3] at h; cases h) (by rw [g2]; exact hkV) (by rw [g2]; exact hA) rfl rfl hd fun H1 e1 z oq => ?_
  refine kk H1 _ ls (h1.setArr hk (by omega) (mOff_wR M a i (some v)) rfl z oq (fun q => by omega) (fun q => by omega) (fun q => by omega) (fun j' hj' q => ?_)) (h2.put z oq (h1.base (by rw [hk]; omega))) h3
  have e3 : j' = j := by omega
  subst e3
  rw [e1, nI_clamp (by omega), arrV_store]
  refine congrArg some (congrArg _ (funext fun q => ?_))
  by_cases hq : q = i
  · subst hq; simp [updV, wR, up2, mR, va_rf]
  · simp [updV, wR, up2, mR, hq]
theorem r_anew (Cc : Cx p l s m args meth c G own cc nL) (hgX : gX G s s.heap) {idx q n j : Nat} {C : String} (hj : j < 6) (hE : gA1 (3 + j) = .object C) (hcl : Cond.classLink own idx C ∈ tw_big) (hO : FieldType.object C ∈ gxO) (hn : n < 2 ^ 20) (hb : gB G ≤ q) (hk : mK M q = 0) (hm : mN M q = 1) (hc : cells + 1 ≤ R.cells) (hs : slots + n ≤ R.slots) (hd : decode cc pc = .ok (.anewarray idx, 3))
    (kk : V p l e R s m args below meth c G Q nL (wMk M q (23 + j) n) (cells + 1) (slots + n) (pc + 3) lo (.ref q :: st)) : V p l e R s m args below meth c G Q nL M cells slots pc lo (.int (nI n) :: st) := by
  intro H locs ls h1 h2 h3
  have hq : H.size = q := (h1 q).2.2.2.2.2.2 hk hm
  have hRA := (Cc.2.2.2.2.1.2 (3 + j) _ (gTys_at G (by omega))).2
  rw [hE] at hRA
  obtain ⟨kA0, comp0, -, -, -, k4⟩ := hRA
  have hcl2 : (nI n).toNatClampNeg = n := nI_clamp (by omega)
  refine W.anew Cc.1 Cc.2.1 Cc.2.2.1 (Cc.2.2.2.1 _ hcl) (hgX.2.2.2.2.2.2.2 _ hO) rfl hd rfl (nI_pos (by omega)) (by rw [hcl2]; omega) hc (by rw [hcl2]; exact hs) fun cA kA comp f1 f2 f3 f4 => ?_
  have hcA : cA = gT G (3 + j) := Option.some.inj (f1.symm.trans k4)
  subst hcA
  rw [hcl2, hq]
  generalize hH1 : H.push ({ cls := gT G (3 + j), slots := Array.replicate n .null, vm := .none } : Cell) = H1
  have z1 : H1.size = q + 1 := by rw [← hH1, Array.size_push, hq]
  have e1 : H1[q]? = some (arrV (gT G (3 + j)) n (fun _ => .null)) := by rw [← hH1, ← hq, Array.getElem?_push_size, ← arrV_new]
  have o1 : ∀ x : Nat, x < q → H1[x]? = H[x]? := fun x hx => by rw [← hH1, Array.getElem?_push, if_neg (by rw [hq]; exact Nat.ne_of_lt hx)]
  refine kk H1 locs ls (h1.new hq hb z1 o1 (by omega) (fun ci2 r hc2 hk2 => ?_) (fun z => by omega) (fun z => by omega) (fun z => by omega) (fun i hi z => ?_)) ⟨Nat.le_trans h2.1 (by omega), fun x a1 a2 => (o1 x (Nat.lt_of_lt_of_le a1 (by rw [← hq]; exact h2.1))).trans (h2.2.1 x a1 a2), h2.2.2⟩ h3
  · have : ci2 < 14 := (List.getElem?_eq_some_iff.mp hc2).1
    omega
  · have e9 : i = j := by omega
    subst e9; exact e1
end RowsR
