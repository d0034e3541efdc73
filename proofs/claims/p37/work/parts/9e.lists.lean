/-! THE CLASS: the main constructor -/
section NBm
variable {T T' : BT} {q j : Nat} {rs : List (Nat × Nat × Nat)} {ls : List Nat} {e0 : Nat} {VI : Nat → Nat → Int32} {VL : Nat → Nat → Int64} {M0 M M' : Mem}
theorem NB.multi (h : NB T q j rs ls e0 VI VL M0 M) (κo κi n k : Nat) (hT : (T.1.getD j 0 == κo && T.2.1.getD j 0 == n && (List.range n).all (fun i => T.1.getD (j + 1 + i) 0 == κi && T.2.1.getD (j + 1 + i) 0 == k)) = true) (hV : ∀ o, j ≤ o → VI o = (fun _ => 0) ∧ VL o = fun _ => 0) :
    NB T q (j + 1 + n) ((List.range n).map (fun i => (j, i, j + 1 + i)) ++ rs) ls e0 VI VL M0 (wMul M (q + j) κo κi n k) := by
  rw [Bool.and_eq_true, Bool.and_eq_true, beq_iff_eq, beq_iff_eq] at hT
  obtain ⟨⟨t1, t2⟩, t3⟩ := hT
  obtain ⟨a1, a2, a3, a4, a5, a7, a6⟩ := h
  refine ⟨fun o ho => ?_, fun a ha => (if_neg (by omega)).trans ((if_neg (by omega)).trans (a2 a (by omega))), (if_neg (by omega)).trans ((if_neg (by omega)).trans (if_pos (by omega))), fun r hr => ?_, fun o ho => ?_, fun o ho => ⟨by have := (a7 o ho).1; omega, (congrFun ((if_neg (by have := (a7 o ho).1; omega)).trans (if_neg (by have := (a7 o ho).1; omega))) _).trans (a7 o ho).2⟩, fun a ha => ?_⟩
  · by_cases e : o = j
    · subst e; exact ⟨(if_pos rfl).trans t1.symm, (if_pos rfl).trans t2.symm⟩
    · by_cases e2 : o < j
      · exact ⟨((if_neg (by omega)).trans (if_neg (by omega))).trans (a1 o e2).1, ((if_neg (by omega)).trans ((if_neg (by omega)).trans (if_neg (by omega)))).trans (a1 o e2).2⟩
      · have t := List.all_eq_true.mp t3 (o - (j + 1)) (List.mem_range.mpr (by omega))
        rw [Bool.and_eq_true, beq_iff_eq, beq_iff_eq, show j + 1 + (o - (j + 1)) = o by omega] at t
        exact ⟨((if_neg (by omega)).trans (if_pos (by omega))).trans t.1.symm, ((if_neg (by omega)).trans (if_pos (by omega))).trans t.2.symm⟩
  · rcases List.mem_append.mp hr with hr | hr
    · obtain ⟨i, hi, rfl⟩ := List.mem_map.mp hr
      have hi := List.mem_range.mp hi
      refine ⟨by show j < _; omega, ?_⟩
      show mR (wMul M (q + j) κo κi n k) (q + j) i = some (q + (j + 1 + i))
      exact (congrFun (if_pos rfl) i).trans ((if_pos hi).trans (congrArg some (by omega)))
    · have u := a4 r hr
      exact ⟨by have := u.1; omega, (congrFun ((if_neg (by have := u.1; omega)).trans (if_neg (by have := u.1; omega))) _).trans u.2⟩
  · by_cases e : o < j
    · exact ⟨(if_neg (by omega)).trans (a5 o e).1, (if_neg (by omega)).trans (a5 o e).2⟩
    · exact ⟨(if_pos (by omega)).trans (hV o (by omega)).1.symm, (if_pos (by omega)).trans (hV o (by omega)).2.symm⟩
  · obtain ⟨b1, b2, b3, b4, b5⟩ := a6 a ha
    exact ⟨((if_neg (by omega)).trans (if_neg (by omega))).trans b1, ((if_neg (by omega)).trans ((if_neg (by omega)).trans (if_neg (by omega)))).trans b2, (if_neg (by omega)).trans b3, (if_neg (by omega)).trans b4, ((if_neg (by omega)).trans (if_neg (by omega))).trans b5⟩
theorem glU {j x y : Nat} {v : Int32} {V W X : Nat → Nat → Int32} (h : (fun o => if o < j then V o else W (o - j)) = X) : (fun o => if o < j then V o else up2 W x y v (o - j)) = up2 X (j + x) y v := by
  subst h
  funext o z
  show (if o < j then V o else up2 W x y v (o - j)) z = up2 (fun o => if o < j then V o else W (o - j)) (j + x) y v o z
  unfold up2
  by_cases e : o < j
  · rw [if_pos e, if_neg (by omega)]
    show V o z = (if o < j then V o else W (o - j)) z
    rw [if_pos e]
  · have hw : (if o < j then V o else W (o - j)) = W (o - j) := if_neg e
    rw [if_neg e]
    by_cases e2 : o - j = x
    · rw [if_pos e2, if_pos (show o = j + x by omega)]
      show (if z = y then v else W (o - j) z) = (if z = y then v else (if o < j then V o else W (o - j)) z)
      rw [hw]
    · rw [if_neg e2, if_neg (show ¬ o = j + x by omega)]
      show W (o - j) z = (if o < j then V o else W (o - j)) z
      rw [hw]
theorem vz {V : Nat → Nat → Int32} {a k : Nat} {v : Int32} {o : Nat} (h : o ≠ a) (g : V o = fun _ => 0) : up2 V a k v o = fun _ => 0 := (up2_row _ _ h).trans g
theorem z_up {k : Nat} : up2 zI 0 k 0 = zI := by
  funext o y
  unfold up2
  split
  · split <;> rfl
  · rfl
end NBm
section RowP
variable {p : Program} {l : Launch} {e : Env} {R : Room} {s : State} {m : MethodId} {args : Array Value} {below : List Frame} {meth : Method} {c : Code} {G : gW} {own : String} {cc : ByteArray} {Q : State → Prop} {nL : Nat} {M : Mem} {cells slots pc : Nat} {lo : List (Nat × Value)} {st : List Value}
/-- a field of the class above the object's own -/
theorem r_putIP {own2 : String} (C : Cx p l s m args meth c G own cc nL) {idx0 idx ci k a : Nat} {x : Int32} (F : FL own2 idx0 ci k .int false) (hl : ∀ r, vwCl[ci]? = some r → Cond.fieldLink own idx (r.2.1 k).1 (r.2.1 k).2.1 (r.2.1 k).2.2.1 ∈ tw_big) (hk : mK M a = ci + 1) (hd : decode cc pc = .ok (.putfield idx, 3)) (kk : V p l e R s m args below meth c G Q nL (wI M a k x) cells slots (pc + 3) lo st) : V p l e R s m args below meth c G Q nL M cells slots pc lo (.int x :: .ref a :: st) := by
  have hgf := F.gf
  intro H locs ls h1 h2 h3
  obtain ⟨Cn, T, N, ty0, hc, hin, hkN, -, hsame, hty, hnm, -, hfin, hty2, hci⟩ := F
  have hlink := hl _ hc
  have hap := va_apart (own := own) C.2.2.2.1 hin ty0 hty hnm C.2.2.2.2.1 hc
  obtain ⟨cell, q2, q2c, q3, q4⟩ := (h1 a).2.1 ci _ hc hk
  obtain ⟨hS, hfc, kC, hkC, hkind⟩ := C.2.2.2.2.1.1 ci _ hc
  obtain ⟨cf, kf, fi, f, hi, hsl⟩ := hS k hkN
  have hlay := C.2.2.2.1 _ (hin _ (u_in_lay hkN))
  unfold u_lay at hlay
  rw [if_neg (by rw [hfin]; decide)] at hlay
  have hst := (u_facts hfc hkC (u_lays C.2.2.2.1 hin hkN) hi).1
  have h6 := u_store hfc hkC hkind hlay hi (by rw [hty k hkN, hty2]) (v := .int x) rfl rfl
  refine W.putK C.1 C.2.1 (f := f) ⟨C.2.2.1, C.2.2.2.1 _ hlink, ⟨_, _, _, hi⟩, hst⟩ (by rw [q2c]; exact h6) q2 q3 (by rw [hsl]; exact k2_hasslot (q4 k hkN)) rfl rfl hd fun H' e1 e2 e3 => ?_
  rw [hsl] at e1 ⊢
  exact kk H' _ ls (h1.setObj hc hk (mOff_wI M a k x) rfl (by omega) e2 e3 (t_OB.to (V := updV (mV ci M a) k (.int x)) ⟨_, e1, q2c, q3, t_set q4 hap hkN (.int x)⟩ (fun j _ => ((mV_wI hgf) j).symm))) (h2.put e2 e3 (h1.base (by rw [hk]; exact Nat.succ_ne_zero ci))) h3
end RowP
theorem lk_mod : ∀ r, vwCl[2]? = some r → Cond.fieldLink RJxc12de 7 (r.2.1 0).1 (r.2.1 0).2.1 (r.2.1 0).2.2.1 ∈ tw_big := fun r h => by
  cases h
  exact tw_i 59 (by decide +kernel) rfl
set_option maxHeartbeats 1000000 in
set_option maxRecDepth 100000 in
theorem c_Jxa1e45_init_da8c8 (l : Launch) (hfl : l.flags = flags0) (G : gW) (M : Mem) (q : Nat) : CT l yJxa1e45_init_da8c8 cJxa1e45_init_da8c8 1 none 1 0 0 12 G M [.ref q] (fun v M' => v = none ∧ M' = M) := by
  refine CT.of hfl rfl (Nat.le_of_ble_eq_true rfl) ?_
  intro pp ee ss mm ar bw mt cd C hgX hr hini
  refine V.eLo (lo' := [(0, .ref q)]) rfl ?_
  refine r_aload_n C 0 dJxa1e45_init_da8c8_0 rfl rfl ?_
  refine r_objInit C oi_Jxa1e45 oi_im oi_cd dJxa1e45_init_da8c8_1 (Nat.le_of_ble_eq_true rfl) (Nat.le_of_ble_eq_true rfl) ?_
  exact r_vret C hr (⟨rfl, rfl⟩) (by first | exact Nat.zero_le _ | decide) (by first | exact Nat.zero_le _ | decide) dJxa1e45_init_da8c8_4
set_option maxHeartbeats 1000000 in
set_option maxRecDepth 100000 in
theorem c_Jxc12de_init_da8c8 (l : Launch) (hfl : l.flags = flags0) (G : gW) (M : Mem) (q : Nat) (hkq : mK M q = 3) : CT l yJxc12de_init_da8c8 cJxc12de_init_da8c8 1 none 2 0 0 32 G M [.ref q] (fun v M' => v = none ∧ M' = wI M q 0 (nI 0)) := by
  refine CT.of hfl rfl (Nat.le_of_ble_eq_true rfl) ?_
  intro pp ee ss mm ar bw mt cd C hgX hr hini
  refine V.eLo (lo' := [(0, .ref q)]) rfl ?_
  refine r_aload_n C 0 dJxc12de_init_da8c8_0 rfl rfl ?_
  refine r_callI C hgX ml_Jxc12de_1 im_Jxa1e45_init_da8c8 rfl (c_Jxa1e45_init_da8c8 l hfl G M q) rfl (Nat.le_of_ble_eq_true rfl) ⟨Nat.le_of_ble_eq_true rfl, Nat.le_of_ble_eq_true rfl⟩ ⟨Nat.le_of_ble_eq_true rfl, Nat.le_of_ble_eq_true rfl⟩ dJxc12de_init_da8c8_1 rfl ?_
  rintro _ My1 ⟨rfl, rfl⟩
  refine r_aload_n C 0 dJxc12de_init_da8c8_4 rfl rfl ?_
  refine r_iconst C (v := nI 0) dJxc12de_init_da8c8_5 (by decide) ?_
  refine r_putIP C fl_Jx4a65c_63 lk_mod hkq dJxc12de_init_da8c8_6 ?_
  exact r_vret C hr (⟨rfl, rfl⟩) (by first | exact Nat.zero_le _ | decide) (by first | exact Nat.zero_le _ | decide) dJxc12de_init_da8c8_9

