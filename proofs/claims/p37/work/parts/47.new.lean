/-! NEW OBJECTS AND ARRAYS: a marker (kind 0, length 1) lies at the address behind the heap's last -/
def mMk (M : Mem) (z : Nat) : Mem := (M.1, va_up M.2.1 z 1, M.2.2.1, M.2.2.2.1, M.2.2.2.2)
/-- a new object or array lies at a, the marker behind it -/
def wMk (M : Mem) (a κ n : Nat) : Mem := (va_up M.1 a κ, va_up (va_up M.2.1 a n) (a + 1) 1, va_up M.2.2.1 a (fun _ => 0), va_up M.2.2.2.1 a (fun _ => 0), va_up M.2.2.2.2 a (fun _ => none))
theorem gRel.mark {G : gW} {M : Mem} {H : Heap} (h : gRel G M H) : gRel G (mMk M H.size) H := by
  intro a
  obtain ⟨q1, q2, q3, q4, q5, q6, q7⟩ := h a
  have hn : mK M a ≠ 0 → mN (mMk M H.size) a = mN M a := fun z => va_up_ne _ _ (by have := (q1 z).2; omega)
  refine ⟨q1, fun ci r hc hk => q2 ci r hc hk, fun z => ?_, fun z => ?_, fun z => ?_, fun j hj z => ?_, fun z1 z2 => ?_⟩
  · rw [hn (by rw [show mK M a = 20 from z]; decide)]; exact q3 z
  · rw [hn (by rw [show mK M a = 21 from z]; decide)]; exact q4 z
  · rw [hn (by rw [show mK M a = 22 from z]; decide)]; exact q5 z
  · rw [hn (by rw [show mK M a = 23 + j from z]; omega)]; exact q6 j hj z
  · by_cases e : a = H.size
    · exact e.symm
    · exact q7 z1 (by rw [show mN (mMk M H.size) a = mN M a from va_up_ne _ _ e] at z2; exact z2)
theorem gRel.fresh {G : gW} {M : Mem} {H : Heap} (h : gRel G M H) {a : Nat} (ha : H.size ≤ a) : mK M a = 0 := by
  apply Classical.byContradiction
  intro z
  have := ((h a).1 z).2
  omega
theorem gRel.new {G : gW} {M : Mem} {H H1 : Heap} {q κ n : Nat} (h : gRel G M H) (hq : H.size = q) (hb : gB G ≤ q) (hz : H1.size = q + 1) (oq : ∀ b, b < q → H1[b]? = H[b]?) (hκ : κ ≠ 0)
    (h1 : ∀ (ci : Nat) (r : vw_C), vwCl[ci]? = some r → κ = ci + 1 → t_OB q ((gD G).1 ci) r.2.2 ((gD G).2 ci) H1 (mV ci (wMk M q κ n) q))
    (h20 : κ = 20 → H1[q]? = some (arrV (gT G 0) n (fun _ => .int 0))) (h21 : κ = 21 → H1[q]? = some (arrV (gT G 1) n (fun _ => .long 0))) (h22 : κ = 22 → H1[q]? = some (arrV (gT G 2) n (fun _ => .int 0)))
    (h23 : ∀ j : Nat, j < 6 → κ = 23 + j → H1[q]? = some (arrV (gT G (3 + j)) n (fun _ => .null))) : gRel G (wMk M q κ n) H1 := by
  intro b
  by_cases e : b = q
  · subst e
    have k1 : mK (wMk M b κ n) b = κ := va_up_self _ _ _
    have k2 : mN (wMk M b κ n) b = n := (va_up_ne _ _ (by omega)).trans (va_up_self _ _ _)
    have k3 : mI (wMk M b κ n) b = fun _ => 0 := va_up_self _ _ _
    have k4 : mL (wMk M b κ n) b = fun _ => 0 := va_up_self _ _ _
    have k5 : mR (wMk M b κ n) b = fun _ => none := va_up_self _ _ _
    rw [k1, k2, k3, k4, k5]
    exact ⟨fun _ => ⟨hb, by omega⟩, fun ci r hc hk => h1 ci r hc hk, h20, h21, h22, fun j hj z => h23 j hj z, fun z _ => absurd z hκ⟩
  · have k1 : mK (wMk M q κ n) b = mK M b := va_up_ne _ _ e
    have k3 : mI (wMk M q κ n) b = mI M b := va_up_ne _ _ e
    have k4 : mL (wMk M q κ n) b = mL M b := va_up_ne _ _ e
    have k5 : mR (wMk M q κ n) b = mR M b := va_up_ne _ _ e
    obtain ⟨q1, q2, q3, q4, q5, q6, q7⟩ := h b
    have hs : mK M b ≠ 0 → H1[b]? = H[b]? ∧ mN (wMk M q κ n) b = mN M b := fun z => by
      have := (q1 z).2
      exact ⟨oq b (by omega), (va_up_ne _ _ (by omega)).trans (va_up_ne _ _ e)⟩
    rw [k1, k3, k4, k5]
    refine ⟨fun z => ⟨(q1 z).1, by have := (q1 z).2; omega⟩, fun ci r hc hk => ?_, fun z => ?_, fun z => ?_, fun z => ?_, fun j hj z => ?_, fun z1 z2 => ?_⟩
    · rw [mV_congr k3 k4 k5]
      exact (q2 ci r hc hk).kept (hs (by rw [hk]; exact Nat.succ_ne_zero ci)).1
    · obtain ⟨a1, a2⟩ := hs (by rw [z]; decide); rw [a1, a2]; exact q3 z
    · obtain ⟨a1, a2⟩ := hs (by rw [z]; decide); rw [a1, a2]; exact q4 z
    · obtain ⟨a1, a2⟩ := hs (by rw [z]; decide); rw [a1, a2]; exact q5 z
    · obtain ⟨a1, a2⟩ := hs (by rw [z]; omega); rw [a1, a2]; exact q6 j hj z
    · by_cases e1 : b = q + 1
      · rw [hz, e1]
      · have k2 : mN (wMk M q κ n) b = mN M b := (va_up_ne _ _ e1).trans (va_up_ne _ _ e)
        rw [k2] at z2
        have := q7 z1 z2
        omega
def d0 (t : Nat) : Value := match t with | 0 => .int 0 | 1 => .long 0 | _ => .null
theorem mV_new {ci : Nat} {M : Mem} {q κ n k : Nat} (h : gF ci k ≤ 2) : mV ci (wMk M q κ n) q k = d0 (gF ci k) := by
  have k3 : mI (wMk M q κ n) q = fun _ => 0 := va_up_self _ _ _
  have k4 : mL (wMk M q κ n) q = fun _ => 0 := va_up_self _ _ _
  have k5 : mR (wMk M q κ n) q = fun _ => none := va_up_self _ _ _
  rcases (show gF ci k = 0 ∨ gF ci k = 1 ∨ gF ci k = 2 by omega) with z | z | z
  · rw [mV_0 z, z, k3]; rfl
  · rw [mV_1 z, z, k4]; rfl
  · rw [mV_2 z, z, k5]; rfl
def NL (own : String) (idx ci N : Nat) : Prop := ∃ (C : String) (T : u_T) (ty : Nat → FieldType), vwCl[ci]? = some (C, T, N) ∧ (∀ w ∈ u_ws C T N, w ∈ tw_big) ∧ (∀ k, k < N → parseFieldDescriptor (T k).2.2.1 = some (ty k)) ∧ (∀ k, k < N → gF ci k ≤ 2 ∧ defaultValue (ty k) = d0 (gF ci k)) ∧ Cond.classLink own idx C ∈ tw_big ∧ Cond.instantiable C N ∈ tw_big ∧ Cond.initialized C ∈ tw_big
section RowsNew
variable {p : Program} {l : Launch} {e : Env} {R : Room} {s : State} {m : MethodId} {args : Array Value} {below : List Frame} {meth : Method} {c : Code} {G : gW} {own : String} {cc : ByteArray} {Q : State → Prop} {nL : Nat} {M : Mem} {cells slots pc : Nat} {lo : List (Nat × Value)} {st : List Value}
theorem V.mark (Cc : Cx p l s m args meth c G own cc nL) (k : ∀ z, gB G ≤ z → (∀ a, z ≤ a → mK M a = 0) → V p l e R s m args below meth c G Q nL (mMk M z) cells slots pc lo st) : V p l e R s m args below meth c G Q nL M cells slots pc lo st := by
  intro H locs ls h1 h2 h3
  exact k H.size (Nat.le_trans Cc.2.2.2.2.2.1 h2.1) (fun a ha => h1.fresh ha) H locs ls h1.mark h2 h3
theorem r_new (Cc : Cx p l s m args meth c G own cc nL) {idx ci N q : Nat} (L : NL own idx ci N) (hb : gB G ≤ q) (hk : mK M q = 0) (hm : mN M q = 1) (hc : cells + 1 ≤ R.cells) (hs : slots + N ≤ R.slots) (hd : decode cc pc = .ok (.new idx, 3))
    (kk : V p l e R s m args below meth c G Q nL (wMk M q (ci + 1) 0) (cells + 1) (slots + N) (pc + 3) lo (.ref q :: st)) : V p l e R s m args below meth c G Q nL M cells slots pc lo st := by
  intro H locs ls h1 h2 h3
  obtain ⟨C, T, ty, hC, hin, hty, hgf, hcl, hia, hit⟩ := L
  have hq : H.size = q := (h1 q).2.2.2.2.2.2 hk hm
  have hKn := Cc.2.2.2.2.1.1 ci _ hC
  have hci : ci < 14 := (List.getElem?_eq_some_iff.mp hC).1
  refine W.newcK Cc.1 Cc.2.1 Cc.2.2.1 (Cc.2.2.2.1 _ hcl) (Cc.2.2.2.1 _ hia) (Cc.2.2.2.1 _ hit) rfl hd hc hs hKn.2.1 hq fun H1 kC hkC e1 z1 o1 => ?_
  refine kk H1 locs ls (h1.new hq hb z1 o1 (by omega) (fun ci2 r hc2 hk2 => ?_) (fun z => by omega) (fun z => by omega) (fun z => by omega) (fun j hj z => by omega)) ⟨Nat.le_trans h2.1 (by omega), fun x a1 a2 => (o1 x (Nat.lt_of_lt_of_le a1 (by rw [← hq]; exact h2.1))).trans (h2.2.1 x a1 a2), h2.2.2⟩ h3
  have e : ci2 = ci := by omega
  subst e
  cases hC.symm.trans hc2
  exact (u_born ty Cc.2.2.2.1 hin hKn hkC e1 hty).to (fun k hk => by rw [mV_new (hgf k hk).1]; exact (hgf k hk).2)
theorem r_newarr (Cc : Cx p l s m args meth c G own cc nL) {q n : Nat} {at_ : ArrayType} (j : Nat) (hj : j < 3) (hat : newarray.typeOf at_ = gA1 j) (hw : Cond.arrayClass (gA1 j) ∈ tw_big) (hn : n < 2 ^ 20) (hb : gB G ≤ q) (hk : mK M q = 0) (hm : mN M q = 1) (hc : cells + 1 ≤ R.cells) (hs : slots + n ≤ R.slots) (hd : decode cc pc = .ok (.newarray at_, 2))
    (kk : V p l e R s m args below meth c G Q nL (wMk M q (20 + j) n) (cells + 1) (slots + n) (pc + 2) lo (.ref q :: st)) : V p l e R s m args below meth c G Q nL M cells slots pc lo (.int (nI n) :: st) := by
  intro H locs ls h1 h2 h3
  have hq : H.size = q := (h1 q).2.2.2.2.2.2 hk hm
  have hK := (Cc.2.2.2.2.1.2 j _ (gTys_at G (by omega))).2
  refine va_newaK Cc.1 Cc.2.1 (by rw [hat]; exact Cc.2.2.2.1 _ hw) rfl hd rfl (nI_pos (by omega)) (nI_clamp (by omega)) ?_ hc hs hq fun H1 cA e1 z1 o1 hAr hNm => ?_
  · rw [hat]
    match j, hj with
    | 0, _ => show n * 4 ≤ _; omega
    | 1, _ => show n * 8 ≤ _; omega
    | 2, _ => show n * 1 ≤ _; omega
  · have hcA : cA = gT G j := by
      rw [hat] at hNm
      match j, hj, hK, hNm with
      | 0, _, hK, hNm => exact Option.some.inj (hNm.symm.trans hK)
      | 1, _, hK, hNm => exact Option.some.inj (hNm.symm.trans hK)
      | 2, _, hK, hNm => exact Option.some.inj (hNm.symm.trans hK)
    subst hcA
    rw [hat] at e1
    refine kk H1 locs ls (h1.new hq hb z1 o1 (by omega) (fun ci2 r hc2 hk2 => ?_) (fun z => ?_) (fun z => ?_) (fun z => ?_) (fun i hi z => by omega)) ⟨Nat.le_trans h2.1 (by omega), fun x a1 a2 => (o1 x (Nat.lt_of_lt_of_le a1 (by rw [← hq]; exact h2.1))).trans (h2.2.1 x a1 a2), h2.2.2⟩ h3
    · have : ci2 < 14 := (List.getElem?_eq_some_iff.mp hc2).1
      omega
    · have : j = 0 := by omega
      subst this; exact e1
    · have : j = 1 := by omega
      subst this; exact e1
    · have : j = 2 := by omega
      subst this; exact e1
end RowsNew
theorem nl_X11_7 : NL RX11 7 2 3 := ⟨RJx4a65c, TJx4a65c, tyJx4a65c, rfl, in_Jx4a65c, tyJx4a65c_ok, by decide +kernel, cl_X11_7, ia_Jx4a65c, it_Jx4a65c⟩
theorem nl_X11_16 : NL RX11 16 10 11 := ⟨RX8, TX8, tyX8, rfl, in_X8, tyX8_ok, by decide +kernel, cl_X11_16, ia_X8, it_X8⟩
theorem nl_X11_22 : NL RX11 22 11 6 := ⟨RX9, TX9, tyX9, rfl, in_X9, tyX9_ok, by decide +kernel, cl_X11_22, ia_X9, it_X9⟩
theorem nl_X11_28 : NL RX11 28 6 10 := ⟨RX4, TX4, tyX4, rfl, in_X4, tyX4_ok, by decide +kernel, cl_X11_28, ia_X4, it_X4⟩
theorem nl_X8_9 : NL RX8 9 2 3 := ⟨RJx4a65c, TJx4a65c, tyJx4a65c, rfl, in_Jx4a65c, tyJx4a65c_ok, by decide +kernel, cl_X8_9, ia_Jx4a65c, it_Jx4a65c⟩
theorem nl_X8_24 : NL RX8 24 12 2 := ⟨RX10, TX10, tyX10, rfl, in_X10, tyX10_ok, by decide +kernel, cl_X8_24, ia_X10, it_X10⟩
theorem nl_X8_45 : NL RX8 45 3 15 := ⟨RX0, TX0, tyX0, rfl, in_X0, tyX0_ok, by decide +kernel, cl_X8_45, ia_X0, it_X0⟩
theorem nl_X9_9 : NL RX9 9 12 2 := ⟨RX10, TX10, tyX10, rfl, in_X10, tyX10_ok, by decide +kernel, cl_X9_9, ia_X10, it_X10⟩
theorem nl_X9_23 : NL RX9 23 4 3 := ⟨RX1, TX1, tyX1, rfl, in_X1, tyX1_ok, by decide +kernel, cl_X9_23, ia_X1, it_X1⟩
theorem nl_X11_74 : NL RX11 74 5 15 := ⟨RX3, TX3, tyX3, rfl, in_X3, tyX3_ok, by decide +kernel, cl_X11_74, ia_X3, it_X3⟩
theorem nl_X3_9 : NL RX3 9 12 2 := ⟨RX10, TX10, tyX10, rfl, in_X10, tyX10_ok, by decide +kernel, cl_X3_9, ia_X10, it_X10⟩
theorem nl_X11_167 : NL RX11 167 8 3 := ⟨RX6, TX6, tyX6, rfl, in_X6, tyX6_ok, by decide +kernel, cl_X11_167, ia_X6, it_X6⟩
theorem nl_X11_282 : NL RX11 282 7 7 := ⟨RX5, TX5, tyX5, rfl, in_X5, tyX5_ok, by decide +kernel, cl_X11_282, ia_X5, it_X5⟩
theorem nl_X11_315 : NL RX11 315 9 4 := ⟨RX7, TX7, tyX7, rfl, in_X7, tyX7_ok, by decide +kernel, cl_X11_315, ia_X7, it_X7⟩
