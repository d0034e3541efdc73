/-! BLOCKS: an object and what belongs to it, by offsets -/
abbrev BT : Type := List Nat × List Nat × List (Nat × Nat × Nat)
def tbCo : BT := ([6, 13, 20, 22, 20, 20, 20, 21, 20, 21], [0, 0, 720, 720, 720, 40, 40, 24, 24, 24], [(1, 0, 2), (1, 1, 3), (0, 6, 1), (0, 7, 4), (0, 8, 5), (0, 9, 6), (0, 12, 7), (0, 13, 8), (0, 14, 9)])
def tbGa : BT := ([8, 21], [0, 24], [(0, 6, 1)])
def tbEl : BT := ([7, 27, 20, 20, 20, 20, 20, 20, 20, 27, 20, 20, 20, 20, 20, 20, 20, 20, 20, 20, 20, 21, 21], [0, 7, 10, 10, 10, 10, 10, 10, 10, 7, 10, 10, 10, 10, 10, 10, 10, 7, 7, 6, 6, 6, 10], [(1, 0, 2), (1, 1, 3), (1, 2, 4), (1, 3, 5), (1, 4, 6), (1, 5, 7), (1, 6, 8), (0, 2, 1), (9, 0, 10), (9, 1, 11), (9, 2, 12), (9, 3, 13), (9, 4, 14), (9, 5, 15), (9, 6, 16), (0, 3, 9), (0, 4, 17), (0, 5, 18), (0, 6, 19), (0, 7, 20), (0, 8, 21), (0, 9, 22)])
def tbBr : BT := ([5, 20, 27, 20, 20, 20, 20, 27, 20, 20, 20, 20], [0, 24, 4, 24, 24, 24, 24, 4, 24, 24, 24, 24], [(0, 0, 1), (2, 0, 3), (2, 1, 4), (2, 2, 5), (2, 3, 6), (0, 1, 2), (7, 0, 8), (7, 1, 9), (7, 2, 10), (7, 3, 11), (0, 2, 7)])
def tbPl : BT := ([12, 13, 20, 22, 13, 20, 22, 23, 21, 21, 20, 5, 20, 27, 20, 20, 20, 20, 27, 20, 20, 20, 20, 5, 20, 27, 20, 20, 20, 20, 27, 20, 20, 20, 20], [0, 0, 24, 24, 0, 24, 24, 2, 24, 24, 24, 0, 24, 4, 24, 24, 24, 24, 4, 24, 24, 24, 24, 0, 24, 4, 24, 24, 24, 24, 4, 24, 24, 24, 24], [(1, 0, 2), (1, 1, 3), (0, 0, 1), (4, 0, 5), (4, 1, 6), (0, 1, 4), (0, 2, 7), (0, 3, 8), (0, 4, 9), (0, 5, 10), (11, 0, 12), (13, 0, 14), (13, 1, 15), (13, 2, 16), (13, 3, 17), (11, 1, 13), (18, 0, 19), (18, 1, 20), (18, 2, 21), (18, 3, 22), (11, 2, 18), (7, 0, 11), (23, 0, 24), (25, 0, 26), (25, 1, 27), (25, 2, 28), (25, 3, 29), (23, 1, 25), (30, 0, 31), (30, 1, 32), (30, 2, 33), (30, 3, 34), (23, 2, 30), (7, 1, 23)])
def tbBk : BT := ([4, 28, 21, 21, 21, 28, 21, 21, 21, 28, 21, 21, 21, 28, 21, 21, 21, 28, 21, 21, 21, 28, 21, 21, 21, 28, 21, 21, 21, 28, 21, 21, 21, 21, 21, 21, 20, 21, 21, 21, 21, 21], [0, 3, 24, 24, 24, 3, 24, 24, 24, 3, 24, 24, 24, 3, 24, 24, 24, 3, 24, 24, 24, 3, 24, 24, 24, 3, 24, 24, 24, 6, 24, 24, 24, 24, 24, 24, 24, 24, 24, 24, 24, 24], [(1, 0, 2), (1, 1, 3), (1, 2, 4), (0, 1, 1), (5, 0, 6), (5, 1, 7), (5, 2, 8), (0, 2, 5), (9, 0, 10), (9, 1, 11), (9, 2, 12), (0, 3, 9), (13, 0, 14), (13, 1, 15), (13, 2, 16), (0, 4, 13), (17, 0, 18), (17, 1, 19), (17, 2, 20), (0, 5, 17), (21, 0, 22), (21, 1, 23), (21, 2, 24), (0, 6, 21), (25, 0, 26), (25, 1, 27), (25, 2, 28), (0, 7, 25), (29, 0, 30), (29, 1, 31), (29, 2, 32), (29, 3, 33), (29, 4, 34), (29, 5, 35), (0, 8, 29), (0, 9, 36), (0, 10, 37), (0, 11, 38), (0, 12, 39), (0, 13, 40), (0, 14, 41)])
def tbPe : BT := ([11, 3, 3, 3, 13, 20, 22, 13, 20, 22, 27, 20, 20, 20, 21, 4, 28, 21, 21, 21, 28, 21, 21, 21, 28, 21, 21, 21, 28, 21, 21, 21, 28, 21, 21, 21, 28, 21, 21, 21, 28, 21, 21, 21, 28, 21, 21, 21, 21, 21, 21, 20, 21, 21, 21, 21, 21], [0, 0, 0, 0, 0, 24, 24, 0, 24, 24, 3, 24, 24, 24, 24, 0, 3, 24, 24, 24, 3, 24, 24, 24, 3, 24, 24, 24, 3, 24, 24, 24, 3, 24, 24, 24, 3, 24, 24, 24, 3, 24, 24, 24, 6, 24, 24, 24, 24, 24, 24, 24, 24, 24, 24, 24, 24], [(0, 1, 1), (0, 2, 2), (0, 3, 3), (4, 0, 5), (4, 1, 6), (0, 4, 4), (7, 0, 8), (7, 1, 9), (0, 5, 7), (10, 0, 11), (10, 1, 12), (10, 2, 13), (0, 6, 10), (0, 7, 14), (16, 0, 17), (16, 1, 18), (16, 2, 19), (15, 1, 16), (20, 0, 21), (20, 1, 22), (20, 2, 23), (15, 2, 20), (24, 0, 25), (24, 1, 26), (24, 2, 27), (15, 3, 24), (28, 0, 29), (28, 1, 30), (28, 2, 31), (15, 4, 28), (32, 0, 33), (32, 1, 34), (32, 2, 35), (15, 5, 32), (36, 0, 37), (36, 1, 38), (36, 2, 39), (15, 6, 36), (40, 0, 41), (40, 1, 42), (40, 2, 43), (15, 7, 40), (44, 0, 45), (44, 1, 46), (44, 2, 47), (44, 3, 48), (44, 4, 49), (44, 5, 50), (15, 8, 44), (15, 9, 51), (15, 10, 52), (15, 11, 53), (15, 12, 54), (15, 13, 55), (15, 14, 56), (0, 10, 15)])
def tbX : BT := ([14, 3, 24, 25, 7, 27, 20, 20, 20, 20, 20, 20, 20, 27, 20, 20, 20, 20, 20, 20, 20, 20, 20, 20, 20, 21, 21, 3, 3], [0, 0, 6, 3, 0, 7, 10, 10, 10, 10, 10, 10, 10, 7, 10, 10, 10, 10, 10, 10, 10, 7, 7, 6, 6, 6, 10, 0, 0], [(0, 0, 1), (0, 1, 2), (0, 2, 3), (5, 0, 6), (5, 1, 7), (5, 2, 8), (5, 3, 9), (5, 4, 10), (5, 5, 11), (5, 6, 12), (4, 2, 5), (13, 0, 14), (13, 1, 15), (13, 2, 16), (13, 3, 17), (13, 4, 18), (13, 5, 19), (13, 6, 20), (4, 3, 13), (4, 4, 21), (4, 5, 22), (4, 6, 23), (4, 7, 24), (4, 8, 25), (4, 9, 26), (0, 3, 4), (0, 4, 27), (0, 5, 28)])
def tbLe : BT := ([9], [0], [])
def tbPa : BT := ([10], [0], [])
def tbSt (n : Nat) : BT := ([13, 20, 22], [0, n, n], [(0, 0, 1), (0, 1, 2)])
/-- a block of table T, its offset o at f o -/
def Blk (T : BT) (K N : Nat → Nat) (R : Nat → Nat → Option Nat) (f : Nat → Nat) : Prop :=
  (∀ o, o < T.1.length → K (f o) = T.1.getD o 0 ∧ N (f o) = T.2.1.getD o 0) ∧ (∀ r ∈ T.2.2, R (f r.1) r.2.1 = some (f r.2.2)) ∧ ∀ o o', o < T.1.length → o' < T.1.length → f o = f o' → o = o'
section Blocks
variable {T : BT} {K N : Nat → Nat} {R : Nat → Nat → Option Nat} {f : Nat → Nat}
theorem Blk.k (h : Blk T K N R f) (o κ : Nat) (c : (decide (o < T.1.length) && (T.1.getD o 0 == κ)) = true) : K (f o) = κ := by
  simp only [Bool.and_eq_true, decide_eq_true_eq, beq_iff_eq] at c
  rw [(h.1 o c.1).1, c.2]
theorem Blk.n (h : Blk T K N R f) (o n : Nat) (c : (decide (o < T.1.length) && (T.2.1.getD o 0 == n)) = true) : N (f o) = n := by
  simp only [Bool.and_eq_true, decide_eq_true_eq, beq_iff_eq] at c
  rw [(h.1 o c.1).2, c.2]
theorem Blk.r (h : Blk T K N R f) (o k t : Nat) (c : T.2.2.contains (o, k, t) = true) : R (f o) k = some (f t) := h.2.1 (o, k, t) (by simpa using c)
theorem Blk.ne (h : Blk T K N R f) (o t : Nat) (c : (decide (o < T.1.length) && (decide (t < T.1.length) && (o != t))) = true) : f o ≠ f t := by
  simp only [Bool.and_eq_true, decide_eq_true_eq, bne_iff_ne] at c
  exact fun e => c.2.2 (h.2.2 o t c.1 c.2.1 e)
theorem Blk.neq (h : Blk T K N R f) {o t : Nat} (h1 : o < T.1.length) (h2 : t < T.1.length) (h3 : o ≠ t) : f o ≠ f t := fun e => h3 (h.2.2 o t h1 h2 e)
/-- arrays in a row -/
theorem Blk.ko (h : Blk T K N R f) (o κ n : Nat) (c : (List.range n).all (fun i => decide (o + i < T.1.length) && (T.1.getD (o + i) 0 == κ)) = true) (i : Nat) (hi : i < n) : K (f (o + i)) = κ := h.k _ _ (List.all_eq_true.mp c i (List.mem_range.mpr hi))
theorem Blk.no (h : Blk T K N R f) (o κ n : Nat) (c : (List.range n).all (fun i => decide (o + i < T.1.length) && (T.2.1.getD (o + i) 0 == κ)) = true) (i : Nat) (hi : i < n) : N (f (o + i)) = κ := h.n _ _ (List.all_eq_true.mp c i (List.mem_range.mpr hi))
theorem Blk.ro (h : Blk T K N R f) (o t n d : Nat) (c : (List.range n).all (fun i => T.2.2.contains (o, i, t + i)) = true) (i : Nat) (hi : i < n) : R (f o) i = some (f (t + i)) := h.r _ _ _ (List.all_eq_true.mp c i (List.mem_range.mpr hi))
theorem Blk.rp (h : Blk T K N R f) (o t n d : Nat) (c : (List.range n).all (fun i => T.2.2.contains (o, i, t + d * i)) = true) (i : Nat) (hi : i < n) : R (f o) i = some (f (t + d * i)) := h.r _ _ _ (List.all_eq_true.mp c i (List.mem_range.mpr hi))
/-- a block within a block -/
theorem Blk.sub (h : Blk T K N R f) (T' : BT) (s : Nat) (c : ((List.range T'.1.length).all (fun o => decide (s + o < T.1.length) && ((T.1.getD (s + o) 0 == T'.1.getD o 0) && (T.2.1.getD (s + o) 0 == T'.2.1.getD o 0))) && T'.2.2.all (fun r => T.2.2.contains (s + r.1, r.2.1, s + r.2.2))) = true) : Blk T' K N R (fun o => f (s + o)) := by
  rw [Bool.and_eq_true] at c
  have c1 : ∀ o, o < T'.1.length → s + o < T.1.length ∧ T.1.getD (s + o) 0 = T'.1.getD o 0 ∧ T.2.1.getD (s + o) 0 = T'.2.1.getD o 0 := fun o ho => by
    have := List.all_eq_true.mp c.1 o (List.mem_range.mpr ho)
    simp only [Bool.and_eq_true, decide_eq_true_eq, beq_iff_eq] at this
    exact this
  refine ⟨fun o ho => ?_, fun r hr => ?_, fun o o' ho ho' e => ?_⟩
  · obtain ⟨a1, a2, a3⟩ := c1 o ho
    rw [← a2, ← a3]; exact h.1 _ a1
  · exact h.r _ _ _ (List.all_eq_true.mp c.2 r hr)
  · have := h.2.2 _ _ (c1 o ho).1 (c1 o' ho').1 e
    omega
end Blocks
/-- nothing changes but at the addresses of A; no shape changes -/
def frm (A : Nat → Prop) (M M' : Mem) : Prop := mK M' = mK M ∧ mN M' = mN M ∧ mR M' = mR M ∧ ∀ a, ¬ A a → mI M' a = mI M a ∧ mL M' a = mL M a
theorem frm.rf (A : Nat → Prop) (M : Mem) : frm A M M := ⟨rfl, rfl, rfl, fun _ _ => ⟨rfl, rfl⟩⟩
theorem frm.tr {A : Nat → Prop} {M M1 M2 : Mem} (h : frm A M M1) (g : frm A M1 M2) : frm A M M2 :=
  ⟨g.1.trans h.1, g.2.1.trans h.2.1, g.2.2.1.trans h.2.2.1, fun a q => ⟨(g.2.2.2 a q).1.trans (h.2.2.2 a q).1, (g.2.2.2 a q).2.trans (h.2.2.2 a q).2⟩⟩
theorem frm.mono {A B : Nat → Prop} {M M' : Mem} (h : frm A M M') (g : ∀ a, A a → B a) : frm B M M' := ⟨h.1, h.2.1, h.2.2.1, fun a q => h.2.2.2 a (fun z => q (g a z))⟩
theorem frm.i {A : Nat → Prop} {M M' : Mem} (h : frm A M M') {a : Nat} (q : ¬ A a) : mI M' a = mI M a := (h.2.2.2 a q).1
theorem frm.l {A : Nat → Prop} {M M' : Mem} (h : frm A M M') {a : Nat} (q : ¬ A a) : mL M' a = mL M a := (h.2.2.2 a q).2
theorem frm.wi {A : Nat → Prop} {M M' : Mem} (h : frm A M M') {b : Nat} (x : Nat) (v : Int32) (hb : A b) : frm A M (wI M' b x v) :=
  ⟨h.1, h.2.1, h.2.2.1, fun a q => ⟨(up2_row _ _ (fun e : a = b => q (by rw [e]; exact hb))).trans (h.2.2.2 a q).1, (h.2.2.2 a q).2⟩⟩
theorem frm.wl {A : Nat → Prop} {M M' : Mem} (h : frm A M M') {b : Nat} (x : Nat) (v : Int64) (hb : A b) : frm A M (wL M' b x v) :=
  ⟨h.1, h.2.1, h.2.2.1, fun a q => ⟨(h.2.2.2 a q).1, (up2_row _ _ (fun e : a = b => q (by rw [e]; exact hb))).trans (h.2.2.2 a q).2⟩⟩
theorem frm.blk {A : Nat → Prop} {M M' : Mem} (h : frm A M M') {T : BT} {f : Nat → Nat} (g : Blk T (mK M) (mN M) (mR M) f) : Blk T (mK M') (mN M') (mR M') f := by rw [h.1, h.2.1, h.2.2.1]; exact g
theorem wI_i {M : Mem} {a x : Nat} {v : Int32} : mI (wI M a x v) a x = v := up2_same _ _ _ _
theorem wI_k {M : Mem} {a x y : Nat} {v : Int32} (h : y ≠ x) : mI (wI M a x v) a y = mI M a y := up2_k _ _ h
theorem wI_a {M : Mem} {a b x : Nat} {v : Int32} (h : b ≠ a) : mI (wI M a x v) b = mI M b := up2_row _ _ h
theorem wL_i {M : Mem} {a x : Nat} {v : Int64} : mL (wL M a x v) a x = v := up2_same _ _ _ _
theorem wL_k {M : Mem} {a x y : Nat} {v : Int64} (h : y ≠ x) : mL (wL M a x v) a y = mL M a y := up2_k _ _ h
theorem wL_a {M : Mem} {a b x : Nat} {v : Int64} (h : b ≠ a) : mL (wL M a x v) b = mL M b := up2_row _ _ h


