/-! THE HEAP UNDER A MEMORY: reading, writing, making -/
theorem mV_0 {ci k : Nat} {M : Mem} {a : Nat} (h : gF ci k = 0) : mV ci M a k = .int (mI M a k) := by unfold mV; rw [h]; rfl
theorem mV_1 {ci k : Nat} {M : Mem} {a : Nat} (h : gF ci k = 1) : mV ci M a k = .long (mL M a k) := by unfold mV; rw [h]; rfl
theorem mV_2 {ci k : Nat} {M : Mem} {a : Nat} (h : gF ci k = 2) : mV ci M a k = va_rf (mR M a k) := by unfold mV; rw [h]; rfl
theorem mVt_congr {M M' : Mem} {a : Nat} (h1 : mI M' a = mI M a) (h2 : mL M' a = mL M a) (h3 : mR M' a = mR M a) (t k : Nat) : mVt t M' a k = mVt t M a k := by
  unfold mVt
  split
  · rw [h1]
  · rw [h2]
  · rw [h3]
theorem mV_congr {ci : Nat} {M M' : Mem} {a : Nat} (h1 : mI M' a = mI M a) (h2 : mL M' a = mL M a) (h3 : mR M' a = mR M a) : mV ci M' a = mV ci M a := funext fun k => mVt_congr h1 h2 h3 _ k
theorem gRel.P1 {G : gW} {M : Mem} {H : Heap} (h : gRel G M H) {ci a : Nat} {r : vw_C} (hc : vwCl[ci]? = some r) (hk : mK M a = ci + 1) : va_P (gD G) vwCl [(a, .inr (ci, (List.range r.2.2).map (mV ci M a)))] H := by
  intro k q hq
  have h0 : k < 1 := (List.getElem?_eq_some_iff.mp hq).1
  rw [show k = 0 by omega] at hq
  cases hq
  refine ⟨r, hc, ((h a).2.1 ci r hc hk).to fun j hj => ?_⟩
  simp [vp_V, List.getD, hj]
theorem gRel.lt {G : gW} {M : Mem} {H : Heap} (h : gRel G M H) {a : Nat} (hk : mK M a ≠ 0) : a < H.size := ((h a).1 hk).2
theorem gRel.base {G : gW} {M : Mem} {H : Heap} (h : gRel G M H) {a : Nat} (hk : mK M a ≠ 0) : gA G a := ((h a).1 hk).1
/-- the same but for the cell a -/
def mOff (a : Nat) (M M' : Mem) : Prop := (∀ b, b ≠ a → mK M' b = mK M b ∧ mN M' b = mN M b ∧ mI M' b = mI M b ∧ mL M' b = mL M b ∧ mR M' b = mR M b)
theorem gRel.off {G : gW} {M M' : Mem} {H H1 : Heap} {a : Nat} (h : gRel G M H) (hM : mOff a M M') (hz : H.size ≤ H1.size) (hmk : ∀ b, b ≠ a → mK M b = 0 → mN M b = 1 → H1.size = b) (oq : ∀ q, q ≠ a → q < H.size → H1[q]? = H[q]?)
    (ha : (mK M' a ≠ 0 → gB G ≤ a ∧ a < H1.size) ∧ (∀ (ci : Nat) (r : vw_C), vwCl[ci]? = some r → mK M' a = ci + 1 → t_OB a ((gD G).1 ci) r.2.2 ((gD G).2 ci) H1 (mV ci M' a)) ∧
      (mK M' a = 20 → H1[a]? = some (arrV (gT G 0) (mN M' a) (fun j => .int (mI M' a j)))) ∧ (mK M' a = 21 → H1[a]? = some (arrV (gT G 1) (mN M' a) (fun j => .long (mL M' a j)))) ∧
      (mK M' a = 22 → H1[a]? = some (arrV (gT G 2) (mN M' a) (fun j => .int (mI M' a j)))) ∧ (∀ j : Nat, j < 6 → mK M' a = 23 + j → H1[a]? = some (arrV (gT G (3 + j)) (mN M' a) (fun i => va_rf (mR M' a i)))) ∧ (mK M' a = 0 → mN M' a = 1 → H1.size = a)) : gRel G M' H1 := by
  intro b
  by_cases e : b = a
  · subst e; exact ha
  · obtain ⟨e1, e2, e3, e4, e5⟩ := hM b e
    rw [e1, e2, e3, e4, e5]
    obtain ⟨q1, q2, q3, q4, q5, q6, q7⟩ := h b
    have hq : mK M b ≠ 0 → H1[b]? = H[b]? := fun z => oq b e (q1 z).2
    refine ⟨fun z => ⟨(q1 z).1, Nat.lt_of_lt_of_le (q1 z).2 hz⟩, fun ci r hc hk => ?_, fun z => ?_, fun z => ?_, fun z => ?_, fun j hj z => ?_, fun z1 z2 => hmk b e z1 z2⟩
    · rw [mV_congr e3 e4 e5]
      exact (q2 ci r hc hk).kept (hq (by rw [hk]; exact Nat.succ_ne_zero ci))
    · rw [hq (by rw [z]; decide)]; exact q3 z
    · rw [hq (by rw [z]; decide)]; exact q4 z
    · rw [hq (by rw [z]; decide)]; exact q5 z
    · rw [hq (by rw [z]; omega)]; exact q6 j hj z
theorem mOff_wI (M : Mem) (a k : Nat) (v : Int32) : mOff a M (wI M a k v) := fun b hb => ⟨rfl, rfl, by show up2 _ _ _ _ b = _; exact up2_row _ _ hb, rfl, rfl⟩
theorem mOff_wL (M : Mem) (a k : Nat) (v : Int64) : mOff a M (wL M a k v) := fun b hb => ⟨rfl, rfl, rfl, by show up2 _ _ _ _ b = _; exact up2_row _ _ hb, rfl⟩
theorem mOff_wR (M : Mem) (a k : Nat) (v : Option Nat) : mOff a M (wR M a k v) := fun b hb => ⟨rfl, rfl, rfl, rfl, by show up2 _ _ _ _ b = _; exact up2_row _ _ hb⟩
theorem mOff_wNew (M : Mem) (a κ n : Nat) : mOff a M (wNew M a κ n) := fun b hb => ⟨va_up_ne _ _ hb, va_up_ne _ _ hb, va_up_ne _ _ hb, va_up_ne _ _ hb, va_up_ne _ _ hb⟩
/-- an object's field was written -/
theorem gRel.setObj {G : gW} {M M' : Mem} {H H1 : Heap} {ci a : Nat} {r : vw_C} (h : gRel G M H) (hc : vwCl[ci]? = some r) (hk : mK M a = ci + 1) (hM : mOff a M M') (hk' : mK M' a = mK M a) (hci : ci < 19) (hz : H1.size = H.size) (oq : ∀ q, q ≠ a → H1[q]? = H[q]?)
    (ho : t_OB a ((gD G).1 ci) r.2.2 ((gD G).2 ci) H1 (mV ci M' a)) : gRel G M' H1 := by
  refine h.off hM (Nat.le_of_eq hz.symm) (fun b _ z1 z2 => hz.trans ((h b).2.2.2.2.2.2 z1 z2)) (fun q hq _ => oq q hq) ?_
  rw [hk', hk]
  refine ⟨fun z => ?_, fun ci2 r2 hc2 hk2 => ?_, fun z => ?_, fun z => ?_, fun z => ?_, fun j hj z => ?_, fun z _ => ?_⟩
  · rw [hz]; exact (h a).1 (by rw [hk]; exact z)
  · have e : ci2 = ci := by omega
    subst e
    cases hc.symm.trans hc2
    exact ho
  all_goals omega
/-- an array's place was written -/
theorem gRel.setArr {G : gW} {M M' : Mem} {H H1 : Heap} {a κ : Nat} (h : gRel G M H) (hk : mK M a = κ) (hκ : 20 ≤ κ) (hM : mOff a M M') (hk' : mK M' a = mK M a) (hz : H1.size = H.size) (oq : ∀ q, q ≠ a → H1[q]? = H[q]?)
    (h0 : κ = 20 → H1[a]? = some (arrV (gT G 0) (mN M' a) (fun j => .int (mI M' a j)))) (h1 : κ = 21 → H1[a]? = some (arrV (gT G 1) (mN M' a) (fun j => .long (mL M' a j)))) (h2 : κ = 22 → H1[a]? = some (arrV (gT G 2) (mN M' a) (fun j => .int (mI M' a j))))
    (h3 : ∀ j : Nat, j < 6 → κ = 23 + j → H1[a]? = some (arrV (gT G (3 + j)) (mN M' a) (fun i => va_rf (mR M' a i)))) : gRel G M' H1 := by
  refine h.off hM (Nat.le_of_eq hz.symm) (fun b _ z1 z2 => hz.trans ((h b).2.2.2.2.2.2 z1 z2)) (fun q hq _ => oq q hq) ?_
  rw [hk', hk]
  refine ⟨fun z => by rw [hz]; exact (h a).1 (by rw [hk]; exact z), fun ci2 r2 hc2 hk2 => ?_, h0, h1, h2, h3, fun z _ => by omega⟩
  have : ci2 < 14 := (List.getElem?_eq_some_iff.mp hc2).1
  omega
section RowsM
variable {p : Program} {l : Launch} {e : Env} {R : Room} {s : State} {m : MethodId} {args : Array Value} {below : List Frame} {meth : Method} {c : Code} {G : gW} {own : String} {cc : ByteArray} {Q : State → Prop} {nL : Nat} {M : Mem} {cells slots pc : Nat} {lo : List (Nat × Value)} {st : List Value}
theorem r_get (C : Cx p l s m args meth c G own cc nL) {idx ci k a : Nat} {ty : FieldType} {fin : Bool} (F : FL own idx ci k ty fin) (hk : mK M a = ci + 1) (hd : decode cc pc = .ok (.getfield idx, 3)) (kk : V p l e R s m args below meth c G Q nL M cells slots (pc + 3) lo (mV ci M a k :: st)) : V p l e R s m args below meth c G Q nL M cells slots pc lo (.ref a :: st) := by
  intro H locs ls h1 h2 h3
  obtain ⟨Cn, T, N, ty, hc, hin, hkN, hlink, hsame, hty, hnm, -⟩ := F
  refine va_get C.1 C.2.1 C.2.2.2.1 hin C.2.2.1 C.2.2.2.2.1 (h1.P1 hc hk) 0 rfl hc k hkN (ref := Cn) (C.2.2.2.1 _ hlink) ?_ (v := mV ci M a k) (by simp [hkN]) hd (kk H locs ls h1 h2 h3)
  rcases hsame with e | e
  · rw [e]; exact fun _ h => h
  · exact fun x hx => u_same (C.2.2.2.1 _ e) x hx
theorem FL.gf {own : String} {idx ci k : Nat} {ty : FieldType} {fin : Bool} (F : FL own idx ci k ty fin) : gF ci k = mTy ty := by
  obtain ⟨_, _, _, _, _, _, _, _, _, _, _, h, _⟩ := F
  exact h
theorem r_getI (C : Cx p l s m args meth c G own cc nL) {idx ci k a : Nat} {ty : FieldType} {fin : Bool} (F : FL own idx ci k ty fin) (ht : mTy ty = 0) (hk : mK M a = ci + 1) (hd : decode cc pc = .ok (.getfield idx, 3)) (kk : V p l e R s m args below meth c G Q nL M cells slots (pc + 3) lo (.int (mI M a k) :: st)) : V p l e R s m args below meth c G Q nL M cells slots pc lo (.ref a :: st) :=
  r_get C F hk hd (by rw [mV_0 (F.gf.trans ht)]; exact kk)
theorem r_getL (C : Cx p l s m args meth c G own cc nL) {idx ci k a : Nat} {ty : FieldType} {fin : Bool} (F : FL own idx ci k ty fin) (ht : mTy ty = 1) (hk : mK M a = ci + 1) (hd : decode cc pc = .ok (.getfield idx, 3)) (kk : V p l e R s m args below meth c G Q nL M cells slots (pc + 3) lo (.long (mL M a k) :: st)) : V p l e R s m args below meth c G Q nL M cells slots pc lo (.ref a :: st) :=
  r_get C F hk hd (by rw [mV_1 (F.gf.trans ht)]; exact kk)
theorem r_getR (C : Cx p l s m args meth c G own cc nL) {idx ci k a b : Nat} {ty : FieldType} {fin : Bool} (F : FL own idx ci k ty fin) (ht : mTy ty = 2) (hk : mK M a = ci + 1) (hr : mR M a k = some b) (hd : decode cc pc = .ok (.getfield idx, 3)) (kk : V p l e R s m args below meth c G Q nL M cells slots (pc + 3) lo (.ref b :: st)) : V p l e R s m args below meth c G Q nL M cells slots pc lo (.ref a :: st) :=
  r_get C F hk hd (by rw [mV_2 (F.gf.trans ht), hr]; exact kk)
/-- a field is written: any field that isn't final -/
theorem r_put (C : Cx p l s m args meth c G own cc nL) {idx ci k a : Nat} {M' : Mem} {v : Value} {ty : FieldType} (F : FL own idx ci k ty false) (hk : mK M a = ci + 1) (hn : narrow ty v = v) (hfit : fits ty v = true) (hM : mOff a M M') (hk' : mK M' a = mK M a) (hv : ∀ j, mV ci M' a j = updV (mV ci M a) k v j) (hd : decode cc pc = .ok (.putfield idx, 3)) (kk : V p l e R s m args below meth c G Q nL M' cells slots (pc + 3) lo st) : V p l e R s m args below meth c G Q nL M cells slots pc lo (v :: .ref a :: st) := by
  intro H locs ls h1 h2 h3
  obtain ⟨Cn, T, N, ty0, hc, hin, hkN, hlink, hsame, hty, hnm, -, hfin, hty2, hci⟩ := F
  have hap := va_apart (own := own) C.2.2.2.1 hin ty0 hty hnm C.2.2.2.2.1 hc
  obtain ⟨cell, q2, q2c, q3, q4⟩ := (h1 a).2.1 ci _ hc hk
  obtain ⟨hS, hfc, kC, hkC, hkind⟩ := C.2.2.2.2.1.1 ci _ hc
  obtain ⟨cf, kf, fi, f, hi, hsl⟩ := hS k hkN
  have hlay := C.2.2.2.1 _ (hin _ (u_in_lay hkN))
  unfold u_lay at hlay
  rw [if_neg (by rw [hfin]; decide)] at hlay
  have hst := (u_facts hfc hkC (u_lays C.2.2.2.1 hin hkN) hi).1
  have h6 := u_store hfc hkC hkind hlay hi (by rw [hty k hkN, hty2]) hn hfit
  have hsm : s.fieldFound? Cn (T k).2.1 (T k).2.2.1 = some (cf, kf, fi, f) := by
    rcases hsame with e | e
    · rw [← e]; exact hi
    · exact u_same (C.2.2.2.1 _ e) _ hi
  refine W.putK C.1 C.2.1 (f := f) ⟨C.2.2.1, C.2.2.2.1 _ hlink, ⟨_, _, _, hsm⟩, hst⟩ (by rw [q2c]; exact h6) q2 q3 (by rw [hsl]; exact k2_hasslot (q4 k hkN)) rfl rfl hd fun H' e1 e2 e3 => ?_
  rw [hsl] at e1 ⊢
  exact kk H' _ ls (h1.setObj hc hk hM hk' (by omega) e2 e3 (t_OB.to (V := updV (mV ci M a) k v) ⟨_, e1, q2c, q3, t_set q4 hap hkN v⟩ (fun j _ => (hv j).symm))) (h2.put e2 e3 (h1.base (by rw [hk]; exact Nat.succ_ne_zero ci))) h3
/-- a final field is written, in a constructor of its class -/
theorem r_putF (C : Cx p l s m args meth c G own cc nL) {idx ci k a : Nat} {M' : Mem} {v : Value} {ty : FieldType} (F : FL own idx ci k ty true) (hinit : meth.name = "<init>") (hdecl : ∀ r, vwCl[ci]? = some r → (r.2.1 k).1 = own) (hk : mK M a = ci + 1) (hn : narrow ty v = v) (hfit : fits ty v = true) (hM : mOff a M M') (hk' : mK M' a = mK M a) (hv : ∀ j, mV ci M' a j = updV (mV ci M a) k v j) (hd : decode cc pc = .ok (.putfield idx, 3)) (kk : V p l e R s m args below meth c G Q nL M' cells slots (pc + 3) lo st) : V p l e R s m args below meth c G Q nL M cells slots pc lo (v :: .ref a :: st) := by
  intro H locs ls h1 h2 h3
  obtain ⟨Cn, T, N, ty0, hc, hin, hkN, hlink, hsame, hty, hnm, -, hfin, hty2, hci⟩ := F
  have hap := va_apart (own := own) C.2.2.2.1 hin ty0 hty hnm C.2.2.2.2.1 hc
  obtain ⟨cell, q2, q2c, q3, q4⟩ := (h1 a).2.1 ci _ hc hk
  obtain ⟨hS, hfc, kC, hkC, hkind⟩ := C.2.2.2.2.1.1 ci _ hc
  obtain ⟨cf, kf, fi, f, hi, hsl⟩ := hS k hkN
  have hlay := C.2.2.2.1 _ (hin _ (u_in_lay hkN))
  unfold u_lay at hlay
  rw [if_pos hfin] at hlay
  have hst := (u_facts hfc hkC (u_lays C.2.2.2.1 hin hkN) hi).1
  have hcf : m.cls = cf := by
    obtain ⟨_, _, c', _, _, _, -, -, hf', -, -, -, hown2, -⟩ := Cond.laysFinal_spec hlay
    have e1 : c' = cf := by have := hi.symm.trans hf'; simp at this; exact this.1.symm
    rw [hdecl _ hc] at hown2
    rw [← e1]; exact Option.some.inj (C.2.2.1.symm.trans hown2)
  have h6 := u_fits hfc hkC hkind (Or.inr hlay) hi (by rw [hty k hkN, hty2]) hn hfit
  have hsm : s.fieldFound? Cn (T k).2.1 (T k).2.2.1 = some (cf, kf, fi, f) := by
    rcases hsame with e | e
    · rw [← e]; exact hi
    · exact u_same (C.2.2.2.1 _ e) _ hi
  refine W.putFinK C.1 C.2.1 C.2.2.1 (C.2.2.2.1 _ hlink) hsm hst hcf hinit (by rw [q2c]; exact h6) q2 q3 (by rw [hsl]; exact k2_hasslot (q4 k hkN)) rfl rfl hd fun H' e1 e2 e3 => ?_
  rw [hsl] at e1 ⊢
  exact kk H' _ ls (h1.setObj hc hk hM hk' (by omega) e2 e3 (t_OB.to (V := updV (mV ci M a) k v) ⟨_, e1, q2c, q3, t_set q4 hap hkN v⟩ (fun j _ => (hv j).symm))) (h2.put e2 e3 (h1.base (by rw [hk]; exact Nat.succ_ne_zero ci))) h3
theorem mV_wI {ci k a : Nat} {M : Mem} {v : Int32} (ht : gF ci k = 0) : ∀ j, mV ci (wI M a k v) a j = updV (mV ci M a) k (.int v) j := by
  intro j
  by_cases e : j = k
  · subst e
    rw [mV_0 ht]
    simp [updV, wI, up2, mI]
  · simp only [updV, if_neg e]
    unfold mV mVt wI
    split
    · simp [up2, e, mI, mL, mR]
    · rfl
    · rfl
theorem mV_wL {ci k a : Nat} {M : Mem} {v : Int64} (ht : gF ci k = 1) : ∀ j, mV ci (wL M a k v) a j = updV (mV ci M a) k (.long v) j := by
  intro j
  by_cases e : j = k
  · subst e
    rw [mV_1 ht]
    simp [updV, wL, up2, mL]
  · simp only [updV, if_neg e]
    unfold mV mVt wL
    split
    · rfl
    · simp [up2, e, mI, mL, mR]
    · rfl
theorem mV_wR {ci k a : Nat} {M : Mem} {v : Option Nat} (ht : gF ci k = 2) : ∀ j, mV ci (wR M a k v) a j = updV (mV ci M a) k (va_rf v) j := by
  intro j
  by_cases e : j = k
  · subst e
    rw [mV_2 ht]
    simp [updV, wR, up2, mR]
  · simp only [updV, if_neg e]
    unfold mV mVt wR
    split
    · rfl
    · rfl
    · simp [up2, e, mI, mL, mR]
theorem r_putI (C : Cx p l s m args meth c G own cc nL) {idx ci k a : Nat} {x : Int32} (F : FL own idx ci k .int false) (hk : mK M a = ci + 1) (hd : decode cc pc = .ok (.putfield idx, 3)) (kk : V p l e R s m args below meth c G Q nL (wI M a k x) cells slots (pc + 3) lo st) : V p l e R s m args below meth c G Q nL M cells slots pc lo (.int x :: .ref a :: st) := r_put C F hk rfl rfl (mOff_wI M a k x) rfl (mV_wI F.gf) hd kk
theorem r_putZ (C : Cx p l s m args meth c G own cc nL) {idx ci k a : Nat} {x : Int32} (F : FL own idx ci k .boolean false) (hx : x = 0 ∨ x = 1) (hk : mK M a = ci + 1) (hd : decode cc pc = .ok (.putfield idx, 3)) (kk : V p l e R s m args below meth c G Q nL (wI M a k x) cells slots (pc + 3) lo st) : V p l e R s m args below meth c G Q nL M cells slots pc lo (.int x :: .ref a :: st) := r_put C F hk (by rcases hx with rfl | rfl <;> rfl) (by rcases hx with rfl | rfl <;> rfl) (mOff_wI M a k x) rfl (mV_wI F.gf) hd kk
theorem r_putL (C : Cx p l s m args meth c G own cc nL) {idx ci k a : Nat} {x : Int64} (F : FL own idx ci k .long false) (hk : mK M a = ci + 1) (hd : decode cc pc = .ok (.putfield idx, 3)) (kk : V p l e R s m args below meth c G Q nL (wL M a k x) cells slots (pc + 3) lo st) : V p l e R s m args below meth c G Q nL M cells slots pc lo (.long x :: .ref a :: st) := r_put C F hk rfl rfl (mOff_wL M a k x) rfl (mV_wL F.gf) hd kk
theorem r_putR (C : Cx p l s m args meth c G own cc nL) {idx ci k a b : Nat} {ty : FieldType} (F : FL own idx ci k ty false) (ht : mTy ty = 2) (hn : narrow ty (.ref b) = .ref b) (hfit : fits ty (.ref b) = true) (hk : mK M a = ci + 1) (hd : decode cc pc = .ok (.putfield idx, 3)) (kk : V p l e R s m args below meth c G Q nL (wR M a k (some b)) cells slots (pc + 3) lo st) : V p l e R s m args below meth c G Q nL M cells slots pc lo (.ref b :: .ref a :: st) := r_put C F hk hn hfit (mOff_wR M a k (some b)) rfl (mV_wR (F.gf.trans ht)) hd kk
theorem r_putIF (C : Cx p l s m args meth c G own cc nL) {idx ci k a : Nat} {x : Int32} (F : FL own idx ci k .int true) (hinit : meth.name = "<init>") (hdecl : ∀ r, vwCl[ci]? = some r → (r.2.1 k).1 = own) (hk : mK M a = ci + 1) (hd : decode cc pc = .ok (.putfield idx, 3)) (kk : V p l e R s m args below meth c G Q nL (wI M a k x) cells slots (pc + 3) lo st) : V p l e R s m args below meth c G Q nL M cells slots pc lo (.int x :: .ref a :: st) := r_putF C F hinit hdecl hk rfl rfl (mOff_wI M a k x) rfl (mV_wI F.gf) hd kk
theorem r_putZF (C : Cx p l s m args meth c G own cc nL) {idx ci k a : Nat} {x : Int32} (F : FL own idx ci k .boolean true) (hinit : meth.name = "<init>") (hdecl : ∀ r, vwCl[ci]? = some r → (r.2.1 k).1 = own) (hx : x = 0 ∨ x = 1) (hk : mK M a = ci + 1) (hd : decode cc pc = .ok (.putfield idx, 3)) (kk : V p l e R s m args below meth c G Q nL (wI M a k x) cells slots (pc + 3) lo st) : V p l e R s m args below meth c G Q nL M cells slots pc lo (.int x :: .ref a :: st) := r_putF C F hinit hdecl hk (by rcases hx with rfl | rfl <;> rfl) (by rcases hx with rfl | rfl <;> rfl) (mOff_wI M a k x) rfl (mV_wI F.gf) hd kk
theorem r_putLF (C : Cx p l s m args meth c G own cc nL) {idx ci k a : Nat} {x : Int64} (F : FL own idx ci k .long true) (hinit : meth.name = "<init>") (hdecl : ∀ r, vwCl[ci]? = some r → (r.2.1 k).1 = own) (hk : mK M a = ci + 1) (hd : decode cc pc = .ok (.putfield idx, 3)) (kk : V p l e R s m args below meth c G Q nL (wL M a k x) cells slots (pc + 3) lo st) : V p l e R s m args below meth c G Q nL M cells slots pc lo (.long x :: .ref a :: st) := r_putF C F hinit hdecl hk rfl rfl (mOff_wL M a k x) rfl (mV_wL F.gf) hd kk
theorem r_putRF (C : Cx p l s m args meth c G own cc nL) {idx ci k a b : Nat} {ty : FieldType} (F : FL own idx ci k ty true) (hinit : meth.name = "<init>") (hdecl : ∀ r, vwCl[ci]? = some r → (r.2.1 k).1 = own) (ht : mTy ty = 2) (hn : narrow ty (.ref b) = .ref b) (hfit : fits ty (.ref b) = true) (hk : mK M a = ci + 1) (hd : decode cc pc = .ok (.putfield idx, 3)) (kk : V p l e R s m args below meth c G Q nL (wR M a k (some b)) cells slots (pc + 3) lo st) : V p l e R s m args below meth c G Q nL M cells slots pc lo (.ref b :: .ref a :: st) := r_putF C F hinit hdecl hk hn hfit (mOff_wR M a k (some b)) rfl (mV_wR (F.gf.trans ht)) hd kk
-- arrays
theorem r_iaload (C : Cx p l s m args meth c G own cc nL) {a : Nat} {i : Int32} (hk : mK M a = 20) (hin : vp_in i (mN M a)) (hd : decode cc pc = .ok (.iaload, 1)) (kk : V p l e R s m args below meth c G Q nL M cells slots (pc + 1) lo (.int (mI M a i.toNatClampNeg) :: st)) : V p l e R s m args below meth c G Q nL M cells slots pc lo (.int i :: .ref a :: st) := by
  intro H locs ls h1 h2 h3
  exact va_iald C.1 C.2.1 C.2.2.2.2.1 (ws := [(a, .inl (gT G 0, mN M a, .inl (mI M a)))]) (fun k q hq => by have h0 : k < 1 := (List.getElem?_eq_some_iff.mp hq).1; rw [show k = 0 by omega] at hq; cases hq; exact (h1 a).2.2.1 hk) 0 0 rfl (gTys_at G (by decide)) hin hd (kk H locs ls h1 h2 h3)
theorem r_laload (C : Cx p l s m args meth c G own cc nL) {a : Nat} {i : Int32} (hk : mK M a = 21) (hin : vp_in i (mN M a)) (hd : decode cc pc = .ok (.laload, 1)) (kk : V p l e R s m args below meth c G Q nL M cells slots (pc + 1) lo (.long (mL M a i.toNatClampNeg) :: st)) : V p l e R s m args below meth c G Q nL M cells slots pc lo (.int i :: .ref a :: st) := by
  intro H locs ls h1 h2 h3
  exact va_lald C.1 C.2.1 C.2.2.2.2.1 (ws := [(a, .inl (gT G 1, mN M a, .inr (.inl (mL M a))))]) (fun k q hq => by have h0 : k < 1 := (List.getElem?_eq_some_iff.mp hq).1; rw [show k = 0 by omega] at hq; cases hq; exact (h1 a).2.2.2.1 hk) 0 1 rfl (gTys_at G (by decide)) hin hd (kk H locs ls h1 h2 h3)
theorem r_zaload (C : Cx p l s m args meth c G own cc nL) {a : Nat} {i : Int32} (hk : mK M a = 22) (hin : vp_in i (mN M a)) (hd : decode cc pc = .ok (.baload, 1)) (kk : V p l e R s m args below meth c G Q nL M cells slots (pc + 1) lo (.int (mI M a i.toNatClampNeg) :: st)) : V p l e R s m args below meth c G Q nL M cells slots pc lo (.int i :: .ref a :: st) := by
  intro H locs ls h1 h2 h3
  exact va_zald C.1 C.2.1 C.2.2.2.2.1 (ws := [(a, .inl (gT G 2, mN M a, .inl (mI M a)))]) (fun k q hq => by have h0 : k < 1 := (List.getElem?_eq_some_iff.mp hq).1; rw [show k = 0 by omega] at hq; cases hq; exact (h1 a).2.2.2.2.1 hk) 0 2 rfl (gTys_at G (by decide)) hin hd (kk H locs ls h1 h2 h3)
theorem gA1_ref {j : Nat} (h : j < 6) : (gA1 (3 + j)).isReference = true := by
  match j, h with
  | 0, _ => rfl
  | 1, _ => rfl
  | 2, _ => rfl
  | 3, _ => rfl
  | 4, _ => rfl
  | 5, _ => rfl
theorem r_aaload (C : Cx p l s m args meth c G own cc nL) {a b : Nat} {i : Int32} (j : Nat) (hj : j < 6) (hk : mK M a = 23 + j) (hin : vp_in i (mN M a)) (hr : mR M a i.toNatClampNeg = some b) (hd : decode cc pc = .ok (.aaload, 1)) (kk : V p l e R s m args below meth c G Q nL M cells slots (pc + 1) lo (.ref b :: st)) : V p l e R s m args below meth c G Q nL M cells slots pc lo (.int i :: .ref a :: st) := by
  intro H locs ls h1 h2 h3
  have hlt : i.toNatClampNeg < mN M a := Nat.not_le.mp fun q => hin (Or.inr q)
  refine W.aald (v := .ref b) (ty := gA1 (3 + j)) C.1 C.2.1 ((h1 a).2.2.2.2.2.1 j hj hk) ((C.2.2.2.2.1.2 (3 + j) _ (gTys_at G (by omega))).1 _ _) (gA1_ref hj) (fun q => by cases q) (by rw [arrV_size]; exact hin) (by rw [arrV_read _ _ hlt, hr]; rfl) rfl rfl hd (kk H locs ls h1 h2 h3)
theorem r_iastore (C : Cx p l s m args meth c G own cc nL) {a : Nat} {i x : Int32} (hk : mK M a = 20) (hin : vp_in i (mN M a)) (hd : decode cc pc = .ok (.iastore, 1)) (kk : V p l e R s m args below meth c G Q nL (wI M a i.toNatClampNeg x) cells slots (pc + 1) lo st) : V p l e R s m args below meth c G Q nL M cells slots pc lo (.int x :: .int i :: .ref a :: st) := by
  intro H locs ls h1 h2 h3
  refine W.iast C.1 C.2.1 ((h1 a).2.2.1 hk) ((C.2.2.2.2.1.2 0 _ (gTys_at G (by decide))).1 _ _) (fun q => by cases q) (by rw [arrV_size]; exact hin) rfl rfl hd fun H1 e1 z oq => ?_
  refine kk H1 _ ls (h1.setArr hk (by decide) (mOff_wI M a _ x) rfl z oq (fun _ => ?_) (fun q => by cases q) (fun q => by cases q) (fun j hj q => by omega)) (h2.put z oq (h1.base (by rw [hk]; decide))) h3
  rw [e1, arrV_store]
  refine congrArg some (congrArg _ (funext fun q => ?_))
  by_cases hq : q = i.toNatClampNeg
  · subst hq; simp [updV, wI, up2, mI]
  · simp [updV, wI, up2, mI, hq]
theorem r_lastore (C : Cx p l s m args meth c G own cc nL) {a : Nat} {i : Int32} {x : Int64} (hk : mK M a = 21) (hin : vp_in i (mN M a)) (hd : decode cc pc = .ok (.lastore, 1)) (kk : V p l e R s m args below meth c G Q nL (wL M a i.toNatClampNeg x) cells slots (pc + 1) lo st) : V p l e R s m args below meth c G Q nL M cells slots pc lo (.long x :: .int i :: .ref a :: st) := by
  intro H locs ls h1 h2 h3
  refine W.last C.1 C.2.1 ((h1 a).2.2.2.1 hk) ((C.2.2.2.2.1.2 1 _ (gTys_at G (by decide))).1 _ _) (fun q => by cases q) (by rw [arrV_size]; exact hin) rfl rfl hd fun H1 e1 z oq => ?_
  refine kk H1 _ ls (h1.setArr hk (by decide) (mOff_wL M a _ x) rfl z oq (fun q => by cases q) (fun _ => ?_) (fun q => by cases q) (fun j hj q => by omega)) (h2.put z oq (h1.base (by rw [hk]; decide))) h3
  rw [e1, arrV_store]
  refine congrArg some (congrArg _ (funext fun q => ?_))
  by_cases hq : q = i.toNatClampNeg
  · subst hq; simp [updV, wL, up2, mL]
  · simp [updV, wL, up2, mL, hq]
theorem r_zastore (C : Cx p l s m args meth c G own cc nL) {a : Nat} {i x : Int32} (hx : x = 0 ∨ x = 1) (hk : mK M a = 22) (hin : vp_in i (mN M a)) (hd : decode cc pc = .ok (.bastore, 1)) (kk : V p l e R s m args below meth c G Q nL (wI M a i.toNatClampNeg x) cells slots (pc + 1) lo st) : V p l e R s m args below meth c G Q nL M cells slots pc lo (.int x :: .int i :: .ref a :: st) := by
  intro H locs ls h1 h2 h3
  refine W.zast C.1 C.2.1 ((h1 a).2.2.2.2.1 hk) ((C.2.2.2.2.1.2 2 _ (gTys_at G (by decide))).1 _ _) (fun q => by cases q) (by rw [arrV_size]; exact hin) rfl rfl hd fun H1 e1 z oq => ?_
  refine kk H1 _ ls (h1.setArr hk (by decide) (mOff_wI M a _ x) rfl z oq (fun q => by cases q) (fun q => by cases q) (fun _ => ?_) (fun j hj q => by omega)) (h2.put z oq (h1.base (by rw [hk]; decide))) h3
  rw [e1, show narrow .boolean (.int x) = .int x by rcases hx with rfl | rfl <;> rfl, arrV_store]
  refine congrArg some (congrArg _ (funext fun q => ?_))
  by_cases hq : q = i.toNatClampNeg
  · subst hq; simp [updV, wI, up2, mI]
  · simp [updV, wI, up2, mI, hq]
theorem r_alen (C : Cx p l s m args meth c G own cc nL) {a : Nat} {v : Int32} (j : Nat) (hj : j < 9) (hk : mK M a = 20 + j) (hv : Int32.ofNat (mN M a) = v) (hd : decode cc pc = .ok (.arraylength, 1)) (kk : V p l e R s m args below meth c G Q nL M cells slots (pc + 1) lo (.int v :: st)) : V p l e R s m args below meth c G Q nL M cells slots pc lo (.ref a :: st) := by
  intro H locs ls h1 h2 h3
  obtain ⟨f, hf⟩ : ∃ f : Nat → Value, H[a]? = some (arrV (gT G j) (mN M a) f) := by
    match j, hj, hk with
    | 0, _, hk => exact ⟨_, (h1 a).2.2.1 hk⟩
    | 1, _, hk => exact ⟨_, (h1 a).2.2.2.1 hk⟩
    | 2, _, hk => exact ⟨_, (h1 a).2.2.2.2.1 hk⟩
    | j + 3, hj, hk => exact ⟨_, by rw [Nat.add_comm j 3]; exact (h1 a).2.2.2.2.2.1 j (by omega) (by rw [hk]; omega)⟩
  subst hv
  exact W.alen (n := Int32.ofNat (mN M a)) C.1 C.2.1 hf ((C.2.2.2.2.1.2 j _ (gTys_at G hj)).1 _ _) (by rw [arrV_size] <;> rfl) rfl rfl hd (kk H locs ls h1 h2 h3)
end RowsM
