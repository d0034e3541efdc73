/-! THE REFERENCE: shift -/
def shF (τ : Mu) (c d m n : Nat) : Mu := sI (sI (sI (sI τ 10 (un τ 13 13) (nI c)) 11 (un τ 13 13) (nI (1440 * d + m))) 12 (un τ 13 13) (nI n)) 13 13 (nI (un τ 13 13 + 1))
def shG (τ : Mu) (c d m n a b : Nat) (i j : Nat) : Mu := sI (sI (shF τ c d m n) 8 i (nI a)) 8 j (nI b)
theorem shG_v {τ : Mu} {c d m n a b i j : Nat} (ha : a < 2 ^ 31) (hb : b < 2 ^ 31) (x : Nat) : un (shG τ c d m n a b i j) 8 x = if x = j then b else if x = i then a else un τ 8 x := by
  by_cases zj : x = j
  · rw [if_pos zj, zj]; exact un_of (sI_s (τ := sI (shF τ c d m n) 8 i (nI a)) (k := 8) (x := j) (v := nI b)) hb
  · rw [if_neg zj]
    have e1 : (shG τ c d m n a b i j).1 8 x = (sI (shF τ c d m n) 8 i (nI a)).1 8 x := sI_k (τ := sI (shF τ c d m n) 8 i (nI a)) (k := 8) (x := j) (v := nI b) zj
    rw [un_cg (τ := sI (shF τ c d m n) 8 i (nI a)) e1]
    by_cases zi : x = i
    · rw [if_pos zi, zi]; exact un_of (sI_s (τ := shF τ c d m n) (k := 8) (x := i) (v := nI a)) ha
    · rw [if_neg zi]; exact un_cg (τ := τ) (sI_k (τ := shF τ c d m n) (k := 8) (x := i) (v := nI a) zi)
theorem shG_e {τ : Mu} {c d m n a b i j x : Nat} (hx : τ.1 8 x = nI (un τ 8 x)) : (shG τ c d m n a b i j).1 8 x = nI (if x = j then b else if x = i then a else un τ 8 x) := by
  by_cases zj : x = j
  · rw [if_pos zj, zj]; exact sI_s (τ := sI (shF τ c d m n) 8 i (nI a)) (k := 8) (x := j) (v := nI b)
  · rw [if_neg zj]
    refine (sI_k (τ := sI (shF τ c d m n) 8 i (nI a)) (k := 8) (x := j) (v := nI b) zj).trans ?_
    by_cases zi : x = i
    · rw [if_pos zi, zi]; exact sI_s (τ := shF τ c d m n) (k := 8) (x := i) (v := nI a)
    · rw [if_neg zi]; exact (sI_k (τ := shF τ c d m n) (k := 8) (x := i) (v := nI a) zi).trans hx

theorem wf_shG {τ : Mu} (hw : WF τ) {c d m n a b i j : Nat} (hs : un τ 13 13 ≠ 40) (hc : c < un τ 9 9) (h1 : un τ 2 c ≤ d) (h2 : d ≤ un τ 3 c) (hm : m ≤ 1439) (hn : 1 ≤ n ∧ n ≤ 1440) (ha : a ≤ un τ 8 i + 1440) (hb : b ≤ un τ 8 j + 1440) (hi : i = 720 * c + d) (hj : j = i ∨ j = i + 1 ∧ d < 719) : WF (shG τ c d m n a b i j) := by
  have hS := hw.sh.2
  have hnc := hw.nc.2
  have hct := (hw.ct c hc).2
  have e13 : un (shG τ c d m n a b i j) 13 13 = un τ 13 13 + 1 := un_of (sI_s (τ := sI (sI (sI τ 10 (un τ 13 13) (nI c)) 11 (un τ 13 13) (nI (1440 * d + m))) 12 (un τ 13 13) (nI n)) (k := 13) (x := 13) (v := nI (un τ 13 13 + 1))) (by omega)
  have s10 : (shG τ c d m n a b i j).1 10 (un τ 13 13) = nI c := sI_s (τ := τ) (k := 10) (x := un τ 13 13) (v := nI c)
  have k10 : ∀ q, q ≠ un τ 13 13 → (shG τ c d m n a b i j).1 10 q = τ.1 10 q := fun q hq => sI_k (τ := τ) (k := 10) (x := un τ 13 13) (v := nI c) hq
  have s11 : (shG τ c d m n a b i j).1 11 (un τ 13 13) = nI (1440 * d + m) := sI_s (τ := sI τ 10 (un τ 13 13) (nI c)) (k := 11) (x := un τ 13 13) (v := nI (1440 * d + m))
  have k11 : ∀ q, q ≠ un τ 13 13 → (shG τ c d m n a b i j).1 11 q = τ.1 11 q := fun q hq => sI_k (τ := sI τ 10 (un τ 13 13) (nI c)) (k := 11) (x := un τ 13 13) (v := nI (1440 * d + m)) hq
  have s12 : (shG τ c d m n a b i j).1 12 (un τ 13 13) = nI n := sI_s (τ := sI (sI τ 10 (un τ 13 13) (nI c)) 11 (un τ 13 13) (nI (1440 * d + m))) (k := 12) (x := un τ 13 13) (v := nI n)
  have k12 : ∀ q, q ≠ un τ 13 13 → (shG τ c d m n a b i j).1 12 q = τ.1 12 q := fun q hq => sI_k (τ := sI (sI τ 10 (un τ 13 13) (nI c)) 11 (un τ 13 13) (nI (1440 * d + m))) (k := 12) (x := un τ 13 13) (v := nI n) hq
  exact ⟨(hw.nc),
    (hw.cw),
    (hw.cp),
    (hw.cf),
    (hw.ct),
    (hw.cft),
    (hw.ch),
    (hw.cn),
    (hw.cn0),
    (hw.py),
    (hw.tl),
    (fun c_ d_ h1_ h2_ => (hw.pyt c_ d_ h1_ h2_).trans (spreadV_cg (τ := τ) (τ' := (shG τ c d m n a b i j)) (c := c_) (d := d_ + 1) (fun _ _ => rfl)).symm),
    (fun x hx => by
      rw [e13]
      have q := hw.mn x hx
      have qi := (hw.mn i (by omega)).2
      have qj := (hw.mn j (by omega)).2
      have q2 := q.2
      refine okN_of (shG_e q.1) ?_ (by omega)
      split
      · omega
      · split <;> omega),
    (fun x y hx hy => by
      have hcf := (hw.cf x hx).2
      have q := hw.mn0 x y hx hy
      have qi := (hw.mn i (by omega)).2
      have qj := (hw.mn j (by omega)).2
      have hy2 : y < un τ 2 x := hy
      refine (shG_v (by omega) (by omega) _).trans ?_
      have n1 : 720 * x + y ≠ i := fun z => by
        have : x = c := by omega
        subst this; omega
      have n2 : 720 * x + y ≠ j := fun z => by
        rcases hj with hj | hj
        · exact n1 (z.trans hj)
        · have : x = c := by omega
          subst this; omega
      rw [if_neg n2, if_neg n1]; exact q),
    (fun x hx h9 => by
      have q := hw.mn1 x hx h9
      have qi := (hw.mn i (by omega)).2
      have qj := (hw.mn j (by omega)).2
      have h92 : 720 * un τ 9 9 ≤ x := h9
      refine (shG_v (by omega) (by omega) _).trans ?_
      rw [if_neg (by omega), if_neg (by omega)]; exact q),
    (okN_of (sI_s (τ := sI (sI (sI τ 10 (un τ 13 13) (nI c)) 11 (un τ 13 13) (nI (1440 * d + m))) 12 (un τ 13 13) (nI n)) (k := 13) (x := 13) (v := nI (un τ 13 13 + 1))) (by omega) (by decide)),
    (fun k hk => by
      rw [e13] at hk
      by_cases z : k = un τ 13 13
      · subst z; exact ⟨okN_of s10 (by omega) (by decide), by rw [un_of s10 (by omega)]; exact hc⟩
      · exact ⟨okN_cg (k10 k z) (hw.sc k (by omega)).1, by rw [un_cg (k10 k z)]; exact (hw.sc k (by omega)).2⟩),
    (fun k hk => by
      rw [e13] at hk
      by_cases z : k = un τ 13 13
      · subst z; exact okN_of s11 (by omega) (by decide)
      · exact okN_cg (k11 k z) (hw.sb k (by omega))),
    (fun k hk => by
      rw [e13] at hk
      by_cases z : k = un τ 13 13
      · subst z; exact ⟨okN_of s12 hn.2 (by decide), by rw [un_of s12 (by omega)]; exact hn.1⟩
      · exact ⟨okN_cg (k12 k z) (hw.sl k (by omega)).1, by rw [un_cg (k12 k z)]; exact (hw.sl k (by omega)).2⟩),
    (hw.nl),
    (hw.lc),
    (hw.ld),
    (hw.rt),
    (hw.ca),
    (hw.te),
    (hw.ne),
    (hw.el),
    (hw.ew),
    (hw.en),
    (hw.ep),
    ((elEq.rf (τ := τ) (τ' := (shG τ c d m n a b i j)) (fun _ => rfl) (fun _ => rfl) (fun _ => rfl) rfl).fm hw),
    (dr_cg hw (fun _ => rfl) (fun _ => rfl)),
    (hw.od),
    ((elEq.rf (τ := τ) (τ' := (shG τ c d m n a b i j)) (fun _ => rfl) (fun _ => rfl) (fun _ => rfl) rfl).or hw (fun _ => rfl)),
    ((elEq.rf (τ := τ) (τ' := (shG τ c d m n a b i j)) (fun _ => rfl) (fun _ => rfl) (fun _ => rfl) rfl).ac hw),
    (hw.cr),
    (hw.cc),
    (hw.bn),
    (hw.be),
    (hw.bt),
    (hw.st),
    (hw.pt),
    (hw.bo),
    (hw.ng),
    (hw.gw),
    (hw.gm),
    (hw.gr),
    (hw.gt),
    (hw.gp),
    (hw.gk),
    (hw.op),
    (hw.np),
    (hw.pw),
    (hw.pm),
    (hw.pb)⟩
theorem sI_twice (τ : Mu) (k x : Nat) (v : Int32) : sI (sI τ k x v) k x v = sI τ k x v := by
  unfold sI
  refine Prod.ext (funext fun f => funext fun y => ?_) rfl
  show (if f = k then (if y = x then v else (if f = k then (if y = x then v else τ.1 f y) else τ.1 f y)) else (if f = k then (if y = x then v else τ.1 f y) else τ.1 f y)) = (if f = k then (if y = x then v else τ.1 f y) else τ.1 f y)
  by_cases e : f = k
  · rw [if_pos e]
    by_cases z : y = x
    · rw [if_pos z, if_pos e, if_pos z]
    · rw [if_neg z]
  · rw [if_neg e]
theorem wf_shift {τ : Mu} (hw : WF τ) {c d m n : Nat} (hs : un τ 13 13 ≠ 40) (hc : c < un τ 9 9) (h1 : un τ 2 c ≤ d) (h2 : d ≤ un τ 3 c) (hm : m ≤ 1439) (hn : 1 ≤ n ∧ n ≤ 1440) : WF (shU τ c d m n) := by
  have e1 := shN_le n
  have e2 := shH_le n m
  unfold shU
  split
  · exact wf_shG hw hs hc h1 h2 hm hn (a := un τ 8 (720 * c + d) + shH n m) (b := un τ 8 (720 * c + d + 1) + (shN n - shH n m)) (i := 720 * c + d) (j := 720 * c + d + 1) (by omega) (by omega) rfl (.inr ⟨rfl, by assumption⟩)
  · rw [← sI_twice]
    exact wf_shG hw hs hc h1 h2 hm hn (a := un τ 8 (720 * c + d) + shH n m) (b := un τ 8 (720 * c + d) + shH n m) (i := 720 * c + d) (j := 720 * c + d) (by omega) (by omega) rfl (.inl rfl)

