/-! WORLD: growth -/
/-- codes s.. lie at z.. now -/
def nw (α : Nat → Nat) (s n z : Nat) : Nat → Nat := fun k => if s ≤ k ∧ k < s + n then z + (k - s) else α k
theorem nw_o {α : Nat → Nat} {s n z k : Nat} (h : ¬ (s ≤ k ∧ k < s + n)) : nw α s n z k = α k := if_neg h
theorem nw_n {α : Nat → Nat} {s n z o : Nat} (h : o < n) : nw α s n z (s + o) = z + o := by
  unfold nw
  rw [if_pos ⟨by omega, by omega⟩]
  omega
/-- what was there stays; ints and longs may change at A, references at B -/
def KP (A B : Nat → Prop) (M M' : Mem) : Prop := ∀ x, mK M x ≠ 0 → mK M' x = mK M x ∧ mN M' x = mN M x ∧ (¬ A x → mI M' x = mI M x ∧ mL M' x = mL M x) ∧ (¬ B x → mR M' x = mR M x)
theorem KP.rf {A B : Nat → Prop} {M : Mem} : KP A B M M := fun _ _ => ⟨rfl, rfl, fun _ => ⟨rfl, rfl⟩, fun _ => rfl⟩
theorem KP.tr {A B : Nat → Prop} {M M1 M2 : Mem} (h : KP A B M M1) (g : KP A B M1 M2) : KP A B M M2 := fun x hx => by
  obtain ⟨a1, a2, a3, a4⟩ := h x hx
  obtain ⟨b1, b2, b3, b4⟩ := g x (by rw [a1]; exact hx)
  exact ⟨b1.trans a1, b2.trans a2, fun q => ⟨(b3 q).1.trans (a3 q).1, (b3 q).2.trans (a3 q).2⟩, fun q => (b4 q).trans (a4 q)⟩
theorem KP.mono {A B A' B' : Nat → Prop} {M M' : Mem} (h : KP A B M M') (ha : ∀ x, mK M x ≠ 0 → A x → A' x) (hb : ∀ x, mK M x ≠ 0 → B x → B' x) : KP A' B' M M' := fun x hx => by
  obtain ⟨a1, a2, a3, a4⟩ := h x hx
  exact ⟨a1, a2, fun q => a3 (fun z => q (ha x hx z)), fun q => a4 (fun z => q (hb x hx z))⟩
theorem KP.fr {A B : Nat → Prop} {M M' : Mem} (f : frm A M M') : KP A B M M' := fun x _ => ⟨congrFun f.1 x, congrFun f.2.1 x, fun q => ⟨f.i q, f.l q⟩, fun _ => congrFun f.2.2.1 x⟩
theorem KP.mk {A B : Nat → Prop} {M : Mem} {z : Nat} (hz : ∀ a, z ≤ a → mK M a = 0) : KP A B M (mMk M z) := fun x hx => ⟨rfl, va_up_ne _ _ (fun e => hx (hz x (Nat.le_of_eq e.symm))), fun _ => ⟨rfl, rfl⟩, fun _ => rfl⟩
theorem KP.lf {G : gW} {A B : Nat → Prop} {M M' : Mem} {ci a s d : Nat} {e : Nat → Nat} (hst : mK M (gS G 0) = 0) (hL : LI G M ci a s e) (hd : mR M a 1 = some d) (h : LF M M' a d) (hA : A a) (hB : ∀ x, x = a ∨ mK M x = 26 → B x) : KP A B M M' := fun x hx => by
  obtain ⟨_, _, g⟩ := h
  obtain ⟨b1, b2, b3, b4, b5⟩ := g x hx
  refine ⟨b1, b2, fun q => ⟨b4 (fun z => q (z ▸ hA)), b3⟩, fun q => b5 (fun z => q (hB x (.inl z))) (fun z => ?_)⟩
  rcases hL.hcase hd with ⟨_, h2⟩ | ⟨h2, _⟩
  · rw [z, h2] at hx; exact hx hst
  · exact q (hB x (.inr (by rw [z]; exact h2)))
theorem KP.cf {τ : Mu} {α : Nat → Nat} {A B : Nat → Prop} {M M' : Mem} (h : KP A B M M') (hA : ∀ a, A a → ∃ k, LV τ k ∧ a = α k) (hB : ∀ a, B a → (∃ k, LV τ k ∧ a = α k) ∨ mK M a = 26) : CF τ α M M' := fun a h1 h2 h3 => by
  obtain ⟨a1, a2, a3, a4⟩ := h a h1
  have nA : ¬ A a := fun z => by obtain ⟨k, q1, q2⟩ := hA a z; exact h3 k q1 q2
  have nB : ¬ B a := fun z => by
    rcases hB a z with ⟨k, q1, q2⟩ | q
    · exact h3 k q1 q2
    · exact h2 q
  exact ⟨a1, a2, (a3 nA).1, (a3 nA).2, a4 nB⟩
theorem V.stat {p : Program} {l : Launch} {e : Env} {R : Room} {s : State} {m : MethodId} {args : Array Value} {below : List Frame} {meth : Method} {c : Code} {G : gW} {Q : State → Prop} {nL : Nat} {M : Mem} {cells slots pc : Nat} {lo : List (Nat × Value)} {st : List Value} (hgX : gX G s s.heap) (k : mK M (gS G 0) = 0 → V p l e R s m args below meth c G Q nL M cells slots pc lo st) : V p l e R s m args below meth c G Q nL M cells slots pc lo st := by
  intro H locs ls h1 h2 h3
  refine k ?_ H locs ls h1 h2 h3
  apply Classical.byContradiction
  intro z
  obtain ⟨cell, _, _, _, _, _, _, hA⟩ := hgX.2.1
  exact hA ((h1 _).1 z).1
/-- a block that is being made: j cells of T at q.., the references rs, the values VI VL -/
def NB (T : BT) (q j : Nat) (rs : List (Nat × Nat × Nat)) (ls : List Nat) (e0 : Nat) (VI : Nat → Nat → Int32) (VL : Nat → Nat → Int64) (M0 M : Mem) : Prop :=
  (∀ o, o < j → mK M (q + o) = T.1.getD o 0 ∧ mN M (q + o) = T.2.1.getD o 0) ∧ (∀ a, q + j ≤ a → mK M a = 0) ∧ mN M (q + j) = 1 ∧ (∀ r ∈ rs, r.1 < j ∧ mR M (q + r.1) r.2.1 = some (q + r.2.2)) ∧ (∀ o, o < j → mI M (q + o) = VI o ∧ mL M (q + o) = VL o) ∧ (∀ o ∈ ls, o < j ∧ mR M (q + o) 1 = some e0) ∧
  ∀ a, a < q → mK M a = mK M0 a ∧ mN M a = mN M0 a ∧ mI M a = mI M0 a ∧ mL M a = mL M0 a ∧ mR M a = mR M0 a
def zI : Nat → Nat → Int32 := fun _ _ => 0
def zL : Nat → Nat → Int64 := fun _ _ => 0
section NBs
variable {T T' : BT} {q j : Nat} {rs : List (Nat × Nat × Nat)} {ls : List Nat} {e0 : Nat} {VI : Nat → Nat → Int32} {VL : Nat → Nat → Int64} {M0 M M' : Mem}
theorem NB.cell (h2 : ∀ a, q ≤ a → mK M a = 0) {κ : Nat} (hT : T.1.getD 0 0 = κ ∧ T.2.1.getD 0 0 = 0) : NB T q 1 [] [] e0 zI zL M (wMk M q κ 0) := by
  refine ⟨fun o ho => ?_, fun a ha => (va_up_ne _ _ (by omega)).trans (h2 a (by omega)), va_up_self _ _ _, (fun r hr => by cases hr), fun o ho => ?_, (fun o ho => by cases ho), fun a ha => ⟨va_up_ne _ _ (by omega), (va_up_ne _ _ (by omega)).trans (va_up_ne _ _ (by omega)), va_up_ne _ _ (by omega), va_up_ne _ _ (by omega), va_up_ne _ _ (by omega)⟩⟩
  · obtain rfl : o = 0 := by omega
    rw [hT.1, hT.2]
    exact ⟨va_up_self _ _ _, (va_up_ne _ _ (by omega)).trans (va_up_self _ _ _)⟩
  · obtain rfl : o = 0 := by omega
    exact ⟨va_up_self _ _ _, va_up_self _ _ _⟩
theorem NB.new (h : NB T q j rs ls e0 VI VL M0 M) (κ n : Nat) (hT : (T.1.getD j 0 == κ && T.2.1.getD j 0 == n) = true) (hV : VI j = (fun _ => 0) ∧ VL j = fun _ => 0) : NB T q (j + 1) rs ls e0 VI VL M0 (wMk M (q + j) κ n) := by
  rw [Bool.and_eq_true, beq_iff_eq, beq_iff_eq] at hT
  obtain ⟨a1, a2, a3, a4, a5, a7, a6⟩ := h
  refine ⟨fun o ho => ?_, fun a ha => (va_up_ne _ _ (by omega)).trans (a2 a (by omega)), va_up_self _ _ _, fun r hr => ⟨Nat.lt_succ_of_lt (a4 r hr).1, (congrFun (va_up_ne _ _ (by have := (a4 r hr).1; omega)) _).trans (a4 r hr).2⟩, fun o ho => ?_, (fun o ho => ⟨Nat.lt_succ_of_lt (a7 o ho).1, (congrFun (va_up_ne _ _ (by have := (a7 o ho).1; omega)) _).trans (a7 o ho).2⟩), fun a ha => ?_⟩
  · by_cases e : o = j
    · subst e
      rw [hT.1, hT.2]
      exact ⟨va_up_self _ _ _, (va_up_ne _ _ (by omega)).trans (va_up_self _ _ _)⟩
    · exact ⟨(va_up_ne _ _ (by omega)).trans (a1 o (by omega)).1, (va_up_ne _ _ (by omega)).trans ((va_up_ne _ _ (by omega)).trans (a1 o (by omega)).2)⟩
  · by_cases e : o = j
    · subst e
      rw [hV.1, hV.2]
      exact ⟨va_up_self _ _ _, va_up_self _ _ _⟩
    · exact ⟨(va_up_ne _ _ (by omega)).trans (a5 o (by omega)).1, (va_up_ne _ _ (by omega)).trans (a5 o (by omega)).2⟩
  · obtain ⟨b1, b2, b3, b4, b5⟩ := a6 a ha
    exact ⟨(va_up_ne _ _ (by omega)).trans b1, ((va_up_ne _ _ (by omega)).trans (va_up_ne _ _ (by omega))).trans b2, (va_up_ne _ _ (by omega)).trans b3, (va_up_ne _ _ (by omega)).trans b4, (va_up_ne _ _ (by omega)).trans b5⟩
theorem NB.ref (h : NB T q j rs ls e0 VI VL M0 M) (o k t : Nat) (ho : (decide (o < j) && (rs.all (fun r => !(r.1 == o && r.2.1 == k)) && ls.all (fun x => !(x == o)))) = true) : NB T q j ((o, k, t) :: rs) ls e0 VI VL M0 (wR M (q + o) k (some (q + t))) := by
  rw [Bool.and_eq_true, Bool.and_eq_true, decide_eq_true_iff] at ho
  obtain ⟨a1, a2, a3, a4, a5, a7, a6⟩ := h
  refine ⟨a1, a2, a3, fun r hr => ?_, a5, (fun x hx => ⟨(a7 x hx).1, (congrFun (up2_row _ _ (by have n := List.all_eq_true.mp ho.2.2 x hx; simp at n; omega)) _).trans (a7 x hx).2⟩), fun a ha => ?_⟩
  · rcases List.mem_cons.mp hr with rfl | hr
    · exact ⟨ho.1, up2_same _ _ _ _⟩
    · refine ⟨(a4 r hr).1, ?_⟩
      have n := List.all_eq_true.mp ho.2.1 r hr
      refine Eq.trans ?_ (a4 r hr).2
      by_cases e : r.1 = o
      · refine (?_ : up2 (mR M) (q + o) k (some (q + t)) (q + r.1) r.2.1 = mR M (q + r.1) r.2.1)
        rw [e]
        refine up2_k _ _ (fun z => ?_)
        rw [e, z] at n
        simp at n
      · exact congrFun (up2_row _ _ (by omega)) _
  · obtain ⟨b1, b2, b3, b4, b5⟩ := a6 a ha
    exact ⟨b1, b2, b3, b4, (up2_row _ _ (by omega)).trans b5⟩
theorem NB.wi (h : NB T q j rs ls e0 VI VL M0 M) (o x : Nat) (v : Int32) (ho : o < j) : NB T q j rs ls e0 (up2 VI o x v) VL M0 (wI M (q + o) x v) := by
  obtain ⟨a1, a2, a3, a4, a5, a7, a6⟩ := h
  refine ⟨a1, a2, a3, a4, fun p hp => ⟨?_, (a5 p hp).2⟩, a7, fun a ha => ?_⟩
  · funext y
    show up2 (mI M) (q + o) x v (q + p) y = up2 VI o x v p y
    unfold up2
    rw [(a5 p hp).1]
    by_cases e : p = o
    · rw [if_pos (by omega), if_pos e]
    · rw [if_neg (by omega), if_neg e]
  · obtain ⟨b1, b2, b3, b4, b5⟩ := a6 a ha
    exact ⟨b1, b2, (up2_row _ _ (by omega)).trans b3, b4, b5⟩
theorem NB.wl (h : NB T q j rs ls e0 VI VL M0 M) (o x : Nat) (v : Int64) (ho : o < j) : NB T q j rs ls e0 VI (up2 VL o x v) M0 (wL M (q + o) x v) := by
  obtain ⟨a1, a2, a3, a4, a5, a7, a6⟩ := h
  refine ⟨a1, a2, a3, a4, fun p hp => ⟨(a5 p hp).1, ?_⟩, a7, fun a ha => ?_⟩
  · funext y
    show up2 (mL M) (q + o) x v (q + p) y = up2 VL o x v p y
    unfold up2
    rw [(a5 p hp).2]
    by_cases e : p = o
    · rw [if_pos (by omega), if_pos e]
    · rw [if_neg (by omega), if_neg e]
  · obtain ⟨b1, b2, b3, b4, b5⟩ := a6 a ha
    exact ⟨b1, b2, b3, (up2_row _ _ (by omega)).trans b4, b5⟩
theorem NB.v (h : NB T q j rs ls e0 VI VL M0 M) {VI' : Nat → Nat → Int32} {VL' : Nat → Nat → Int64} (e1 : ∀ o, o < j → VI o = VI' o) (e2 : ∀ o, o < j → VL o = VL' o) : NB T q j rs ls e0 VI' VL' M0 M := by
  obtain ⟨a1, a2, a3, a4, a5, a7, a6⟩ := h
  exact ⟨a1, a2, a3, a4, fun o ho => ⟨(a5 o ho).1.trans (e1 o ho), (a5 o ho).2.trans (e2 o ho)⟩, a7, a6⟩
def shR (j : Nat) (rs : List (Nat × Nat × Nat)) : List (Nat × Nat × Nat) := rs.map (fun r => (j + r.1, r.2.1, j + r.2.2))
theorem NB.sub (h : NB T q j rs ls e0 VI VL M0 M) {n' : Nat} {rs' : List (Nat × Nat × Nat)} {ls' : List Nat} {VI' : Nat → Nat → Int32} {VL' : Nat → Nat → Int64} (g : NB T' (q + j) n' rs' ls' e0 VI' VL' M M') (hT : ((List.range n').all (fun o => T.1.getD (j + o) 0 == T'.1.getD o 0 && T.2.1.getD (j + o) 0 == T'.2.1.getD o 0)) = true) : NB T q (j + n') (shR j rs' ++ rs) (ls'.map (fun o => j + o) ++ ls) e0 (fun o => if o < j then VI o else VI' (o - j)) (fun o => if o < j then VL o else VL' (o - j)) M0 M' := by
  obtain ⟨a1, a2, a3, a4, a5, a7, a6⟩ := h
  obtain ⟨g1, g2, g3, g4, g5, g7, g6⟩ := g
  refine ⟨fun o ho => ?_, fun a ha => g2 a (by omega), by rw [← Nat.add_assoc]; exact g3, fun r hr => ?_, fun o ho => ?_, fun o ho => ?_, fun a ha => ?_⟩
  · by_cases e : o < j
    · exact ⟨(g6 _ (by omega)).1.trans (a1 o e).1, (g6 _ (by omega)).2.1.trans (a1 o e).2⟩
    · have t := List.all_eq_true.mp hT (o - j) (List.mem_range.mpr (by omega))
      rw [Bool.and_eq_true, beq_iff_eq, beq_iff_eq, show j + (o - j) = o by omega] at t
      have u := g1 (o - j) (by omega)
      rw [show q + j + (o - j) = q + o by omega] at u
      rw [t.1, t.2]; exact u
  · rcases List.mem_append.mp hr with hr | hr
    · obtain ⟨r', h1, rfl⟩ := List.mem_map.mp hr
      have u := g4 r' h1
      refine ⟨by have := u.1; show j + r'.1 < j + n'; omega, ?_⟩
      show mR M' (q + (j + r'.1)) r'.2.1 = some (q + (j + r'.2.2))
      rw [← Nat.add_assoc, ← Nat.add_assoc]
      exact u.2
    · have u := a4 r hr
      exact ⟨by have := u.1; omega, (congrFun (g6 _ (by have := u.1; omega)).2.2.2.2 _).trans u.2⟩
  · show mI M' (q + o) = (if o < j then VI o else VI' (o - j)) ∧ mL M' (q + o) = (if o < j then VL o else VL' (o - j))
    by_cases e : o < j
    · rw [if_pos e, if_pos e]
      obtain ⟨_, _, b3, b4, _⟩ := g6 (q + o) (by omega)
      exact ⟨b3.trans (a5 o e).1, b4.trans (a5 o e).2⟩
    · have u := g5 (o - j) (by omega)
      rw [show q + j + (o - j) = q + o by omega] at u
      rw [if_neg e, if_neg e]
      exact u
  · rcases List.mem_append.mp ho with ho | ho
    · obtain ⟨o', h1, rfl⟩ := List.mem_map.mp ho
      have u := g7 o' h1
      exact ⟨by have := u.1; omega, by rw [← Nat.add_assoc]; exact u.2⟩
    · have u := a7 o ho
      exact ⟨by have := u.1; omega, (congrFun (g6 _ (by have := u.1; omega)).2.2.2.2 _).trans u.2⟩
  · obtain ⟨b1, b2, b3, b4, b5⟩ := a6 a ha
    obtain ⟨c1, c2, c3, c4, c5⟩ := g6 a (by omega)
    exact ⟨c1.trans b1, c2.trans b2, c3.trans b3, c4.trans b4, c5.trans b5⟩
theorem NB.blk (h : NB T q j rs ls e0 VI VL M0 M) (hj : T.1.length = j) (hr : T.2.2.all (fun r => rs.contains r) = true) : Blk T (mK M) (mN M) (mR M) (fun o => q + o) :=
  ⟨fun o ho => h.1 o (by omega), fun r hr2 => by
    have c := List.all_eq_true.mp hr r hr2
    exact (h.2.2.2.1 r (by simpa using c)).2, fun o o' _ _ e => by have e2 : q + o = q + o' := e; omega⟩
theorem NB.kp {A B : Nat → Prop} (h : NB T q j rs ls e0 VI VL M0 M) (h0 : ∀ a, q ≤ a → mK M0 a = 0) : KP A B M0 M := fun x hx => by
  have : x < q := Nat.lt_of_not_le fun z => hx (h0 x z)
  obtain ⟨b1, b2, b3, b4, b5⟩ := h.2.2.2.2.2.2 x this
  exact ⟨b1, b2, fun _ => ⟨b3, b4⟩, fun _ => b5⟩
theorem glI {j x : Nat} {v : Int32} : (fun o => if o < j then zI o else up2 zI 0 x v (o - j)) = up2 zI j x v := by
  funext o y
  show (if o < j then zI o else up2 zI 0 x v (o - j)) y = up2 zI j x v o y
  unfold up2
  by_cases e : o < j
  · rw [if_pos e, if_neg (by omega)]
  · rw [if_neg e]
    by_cases z : o = j
    · rw [if_pos (by omega), if_pos z]; rfl
    · rw [if_neg (by omega), if_neg z]; rfl
theorem gl0I {j : Nat} {V : Nat → Nat → Int32} (h : ∀ o, j ≤ o → V o = fun _ => 0) : (fun o => if o < j then V o else zI (o - j)) = V := by
  funext o
  show (if o < j then V o else zI (o - j)) = V o
  by_cases e : o < j
  · rw [if_pos e]
  · rw [if_neg e, h o (by omega)]; rfl
theorem gl0L {j : Nat} {V : Nat → Nat → Int64} (h : ∀ o, j ≤ o → V o = fun _ => 0) : (fun o => if o < j then V o else zL (o - j)) = V := by
  funext o
  show (if o < j then V o else zL (o - j)) = V o
  by_cases e : o < j
  · rw [if_pos e]
  · rw [if_neg e, h o (by omega)]; rfl
theorem NB.lst (h : NB T q j rs ls e0 VI VL M0 M) (o : Nat) (ho : (decide (o < j) && rs.all (fun r => !(r.1 == o))) = true) : NB T q j rs (o :: ls) e0 VI VL M0 (wR M (q + o) 1 (some e0)) := by
  rw [Bool.and_eq_true, decide_eq_true_iff] at ho
  obtain ⟨a1, a2, a3, a4, a5, a7, a6⟩ := h
  refine ⟨a1, a2, a3, fun r hr => ⟨(a4 r hr).1, (congrFun (up2_row _ _ (by have n := List.all_eq_true.mp ho.2 r hr; simp at n; omega)) _).trans (a4 r hr).2⟩, a5, (fun x hx => ?_), fun a ha => ?_⟩
  · rcases List.mem_cons.mp hx with rfl | hx
    · exact ⟨ho.1, up2_same _ _ _ _⟩
    · refine ⟨(a7 x hx).1, ?_⟩
      by_cases e : x = o
      · subst e; exact up2_same _ _ _ _
      · exact (congrFun (up2_row _ _ (by omega)) _).trans (a7 x hx).2
  · obtain ⟨b1, b2, b3, b4, b5⟩ := a6 a ha
    exact ⟨b1, b2, b3, b4, (up2_row _ _ (by omega)).trans b5⟩
end NBs
/-- a block under other codes, in another memory -/
theorem Blk.xf {T : BT} {K N K' N' : Nat → Nat} {R R' : Nat → Nat → Option Nat} {f f' : Nat → Nat} (h : Blk T K N R f) (wf : (T.2.2.all (fun r => decide (r.1 < T.1.length) && decide (r.2.2 < T.1.length))) = true) (e : ∀ o, o < T.1.length → f' o = f o ∧ K' (f o) = K (f o) ∧ N' (f o) = N (f o)) (er : ∀ r ∈ T.2.2, R' (f r.1) r.2.1 = R (f r.1) r.2.1) : Blk T K' N' R' f' := by
  refine ⟨fun o ho => ?_, fun r hr => ?_, fun o o' h1 h2 z => ?_⟩
  · obtain ⟨a1, a2, a3⟩ := e o ho
    rw [a1, a2, a3]; exact h.1 o ho
  · have w := List.all_eq_true.mp wf r hr
    rw [Bool.and_eq_true, decide_eq_true_iff, decide_eq_true_iff] at w
    rw [(e _ w.1).1, (e _ w.2).1, er r hr]; exact h.2.1 r hr
  · rw [(e o h1).1, (e o' h2).1] at z
    exact h.2.2 o o' h1 h2 z

