theorem wf_bracket {τ : Mu} (hw : WF τ) {A t n : Nat} (hA : A < 144) (hB : un τ 33 A ≠ 4) (ht : t ≤ 1000000000) (hn : n ≤ 900) : WF (sI (sI (sI τ 34 (4 * A + un τ 33 A) (nI t)) 35 (4 * A + un τ 33 A) (nI n)) 33 A (nI (un τ 33 A + 1))) := by
  have hb4 := (hw.bn A hA).2
  have eA : un (sI (sI (sI τ 34 (4 * A + un τ 33 A) (nI t)) 35 (4 * A + un τ 33 A) (nI n)) 33 A (nI (un τ 33 A + 1))) 33 A = un τ 33 A + 1 := un_of (sI_s (τ := sI (sI τ 34 (4 * A + un τ 33 A) (nI t)) 35 (4 * A + un τ 33 A) (nI n)) (k := 33) (x := A) (v := nI (un τ 33 A + 1))) (by omega)
  have eO : ∀ i, i ≠ A → un (sI (sI (sI τ 34 (4 * A + un τ 33 A) (nI t)) 35 (4 * A + un τ 33 A) (nI n)) 33 A (nI (un τ 33 A + 1))) 33 i = un τ 33 i := fun i hi => un_cg (sI_k (τ := sI (sI τ 34 (4 * A + un τ 33 A) (nI t)) 35 (4 * A + un τ 33 A) (nI n)) (k := 33) (x := A) hi)
  exact ⟨(hw.nc),
    (hw.cw),
    (hw.cp),
    (hw.cf),
    (hw.ct),
    (hw.cft),
    (hw.ch),
    (hw.cn),
    (hw.cn0),
    (hw.py),
    (hw.tl),
    (fun c_ d_ h1_ h2_ => (hw.pyt c_ d_ h1_ h2_).trans (spreadV_cg (τ := τ) (τ' := (sI (sI (sI τ 34 (4 * A + un τ 33 A) (nI t)) 35 (4 * A + un τ 33 A) (nI n)) 33 A (nI (un τ 33 A + 1)))) (c := c_) (d := d_ + 1) (fun _ _ => rfl)).symm),
    (hw.mn),
    (hw.mn0),
    (hw.mn1),
    (hw.sh),
    (hw.sc),
    (hw.sb),
    (hw.sl),
    (hw.nl),
    (hw.lc),
    (hw.ld),
    (hw.rt),
    (hw.ca),
    (hw.te),
    (hw.ne),
    (hw.el),
    (hw.ew),
    (hw.en),
    (hw.ep),
    ((elEq.rf (τ := τ) (τ' := (sI (sI (sI τ 34 (4 * A + un τ 33 A) (nI t)) 35 (4 * A + un τ 33 A) (nI n)) 33 A (nI (un τ 33 A + 1)))) (fun _ => rfl) (fun _ => rfl) (fun _ => rfl) rfl).fm hw),
    (dr_cg hw (fun _ => rfl) (fun _ => rfl)),
    (hw.od),
    ((elEq.rf (τ := τ) (τ' := (sI (sI (sI τ 34 (4 * A + un τ 33 A) (nI t)) 35 (4 * A + un τ 33 A) (nI n)) 33 A (nI (un τ 33 A + 1)))) (fun _ => rfl) (fun _ => rfl) (fun _ => rfl) rfl).or hw (fun _ => rfl)),
    ((elEq.rf (τ := τ) (τ' := (sI (sI (sI τ 34 (4 * A + un τ 33 A) (nI t)) 35 (4 * A + un τ 33 A) (nI n)) 33 A (nI (un τ 33 A + 1)))) (fun _ => rfl) (fun _ => rfl) (fun _ => rfl) rfl).ac hw),
    (hw.cr),
    (hw.cc),
    (fun i hi => okN_set (τ := sI (sI τ 34 (4 * A + un τ 33 A) (nI t)) 35 (4 * A + un τ 33 A) (nI n)) (k := 33) (n := A) (v := un τ 33 A + 1) (by omega) (by decide) (hw.bn i hi)),
    (fun i b hi hb => by
      have q : 4 * i + b = 4 * A + un τ 33 A ∨ b < un τ 33 i := by
        by_cases z : i = A
        · rw [z, eA] at hb; rw [z]; omega
        · rw [eO i z] at hb; exact .inr hb
      by_cases y : 4 * i + b = 4 * A + un τ 33 A
      · rw [y]; exact okN_of (sI_s (τ := τ) (k := 34) (x := 4 * A + un τ 33 A) (v := nI t)) ht (by decide)
      · exact okN_cg (sI_k (τ := τ) (k := 34) (x := 4 * A + un τ 33 A) (v := nI t) y) (hw.be i b hi (q.resolve_left y))),
    (fun i b hi hb => by
      have q : 4 * i + b = 4 * A + un τ 33 A ∨ b < un τ 33 i := by
        by_cases z : i = A
        · rw [z, eA] at hb; rw [z]; omega
        · rw [eO i z] at hb; exact .inr hb
      by_cases y : 4 * i + b = 4 * A + un τ 33 A
      · rw [y]; exact okN_of (sI_s (τ := sI τ 34 (4 * A + un τ 33 A) (nI t)) (k := 35) (x := 4 * A + un τ 33 A) (v := nI n)) hn (by decide)
      · exact okN_cg (sI_k (τ := sI τ 34 (4 * A + un τ 33 A) (nI t)) (k := 35) (x := 4 * A + un τ 33 A) (v := nI n) y) (hw.bt i b hi (q.resolve_left y))),
    (hw.st),
    (hw.pt),
    (hw.bo),
    (hw.ng),
    (hw.gw),
    (hw.gm),
    (hw.gr),
    (hw.gt),
    (hw.gp),
    (hw.gk),
    (hw.op),
    (hw.np),
    (hw.pw),
    (hw.pm),
    (hw.pb)⟩
def mixU (τ U : Mu) : Mu := (fun k x => if k < 46 then τ.1 k x else U.1 k x, U.2)
theorem mixU_e {τ U : Mu} (h : ∀ k, k < 46 → ∀ x, U.1 k x = τ.1 k x) : mixU τ U = U := by
  unfold mixU
  refine Prod.ext (funext fun k => funext fun x => ?_) rfl
  show (if k < 46 then τ.1 k x else U.1 k x) = U.1 k x
  by_cases e : k < 46
  · rw [if_pos e, h k e]
  · rw [if_neg e]
theorem wf_mix {τ : Mu} (hw : WF τ) {U : Mu} (h46 : okN U 46 46 24) (h51 : okN U 51 51 144) (h47 : ∀ k, k < un U 51 51 → okN U 47 k 5) (h48 : ∀ k, k < un U 51 51 → okN U 48 k 23) (h50 : ∀ k, k < un U 51 51 → okN U 50 k 1) : WF (mixU τ U) := by
  exact ⟨(hw.nc),
    (hw.cw),
    (hw.cp),
    (hw.cf),
    (hw.ct),
    (hw.cft),
    (hw.ch),
    (hw.cn),
    (hw.cn0),
    (hw.py),
    (hw.tl),
    (fun c_ d_ h1_ h2_ => (hw.pyt c_ d_ h1_ h2_).trans (spreadV_cg (τ := τ) (τ' := (mixU τ U)) (c := c_) (d := d_ + 1) (fun _ _ => rfl)).symm),
    (hw.mn),
    (hw.mn0),
    (hw.mn1),
    (hw.sh),
    (hw.sc),
    (hw.sb),
    (hw.sl),
    (hw.nl),
    (hw.lc),
    (hw.ld),
    (hw.rt),
    (hw.ca),
    (hw.te),
    (hw.ne),
    (hw.el),
    (hw.ew),
    (hw.en),
    (hw.ep),
    ((elEq.rf (τ := τ) (τ' := (mixU τ U)) (fun _ => rfl) (fun _ => rfl) (fun _ => rfl) rfl).fm hw),
    (dr_cg hw (fun _ => rfl) (fun _ => rfl)),
    (hw.od),
    ((elEq.rf (τ := τ) (τ' := (mixU τ U)) (fun _ => rfl) (fun _ => rfl) (fun _ => rfl) rfl).or hw (fun _ => rfl)),
    ((elEq.rf (τ := τ) (τ' := (mixU τ U)) (fun _ => rfl) (fun _ => rfl) (fun _ => rfl) rfl).ac hw),
    (hw.cr),
    (hw.cc),
    (hw.bn),
    (hw.be),
    (hw.bt),
    (hw.st),
    (hw.pt),
    (hw.bo),
    (hw.ng),
    (hw.gw),
    (hw.gm),
    (hw.gr),
    (hw.gt),
    (hw.gp),
    (hw.gk),
    (h46),
    (h51),
    (h47),
    (h48),
    (h50)⟩
theorem wf_close {τ : Mu} (hw : WF τ) (hnp0 : un τ 51 51 ≤ 6 * un τ 46 46) (ho : un τ 46 46 < 24) : WF (clU τ) := by
  obtain ⟨h1, h2, h3, h4, h5⟩ := clS_ok hw hnp0 ho 6 (Nat.le_refl _)
  generalize hb : clS τ 6 = b at h1 h2 h3 h4 h5
  have e46 : un (clU τ) 46 46 = un τ 46 46 + 1 := un_of (sI_s (τ := flU (clS τ 6) (tx3 τ) (co3 τ) 72) (k := 46) (x := 46) (v := nI (un τ 46 46 + 1))) (by omega)
  have hrow : ∀ k, k ≠ 46 → k ≠ 54 → ∀ x, (clU τ).1 k x = b.1 k x := fun k h6 h4 x => by
    rw [← hb]
    exact (up2_a _ _ h6).trans (flU_I _ _ _ _ _ _ h4)
  have e51 : un (clU τ) 51 51 = un b 51 51 := un_cg (hrow 51 (by decide) (by decide) 51)
  rw [← mixU_e (U := clU τ) (fun k hk x => (clU_lo τ k hk x).1)]
  refine wf_mix hw (okN_of (sI_s (τ := flU (clS τ 6) (tx3 τ) (co3 τ) 72) (k := 46) (x := 46) (v := nI (un τ 46 46 + 1))) (by omega) (by decide)) ?_ ?_ ?_ ?_
  · have q := okN_cg (hrow 51 (by decide) (by decide) 51) h1
    exact ⟨q.1, by have := q.2; omega⟩
  · intro k hk; rw [e51] at hk; exact okN_cg (hrow 47 (by decide) (by decide) k) (h2 k hk)
  · intro k hk; rw [e51] at hk; exact okN_cg (hrow 48 (by decide) (by decide) k) (h3 k hk)
  · intro k hk; rw [e51] at hk; exact okN_cg (hrow 50 (by decide) (by decide) k) (h4 k hk)
theorem np_close {τ : Mu} (hw : WF τ) (hnp0 : un τ 51 51 ≤ 6 * un τ 46 46) (ho : un τ 46 46 < 24) : un (clU τ) 51 51 ≤ 6 * un (clU τ) 46 46 := by
  obtain ⟨h1, h2, h3, h4, h5⟩ := clS_ok hw hnp0 ho 6 (Nat.le_refl _)
  have e46 : un (clU τ) 46 46 = un τ 46 46 + 1 := un_of (sI_s (τ := flU (clS τ 6) (tx3 τ) (co3 τ) 72) (k := 46) (x := 46) (v := nI (un τ 46 46 + 1))) (by omega)
  generalize hb : clS τ 6 = b at h1
  have hrow : ∀ k, k ≠ 46 → k ≠ 54 → ∀ x, (clU τ).1 k x = b.1 k x := fun k h6 h4 x => by
    rw [← hb]
    exact (up2_a _ _ h6).trans (flU_I _ _ _ _ _ _ h4)
  have e51 : un (clU τ) 51 51 = un b 51 51 := un_cg (hrow 51 (by decide) (by decide) 51)
  rw [e46, e51]
  have := h1.2
  omega

