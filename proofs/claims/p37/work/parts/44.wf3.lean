/-! THE REFERENCE: what was told stays as bounded: contract, pay, shift, bracket, close -/
theorem sp_py {σ : Mu} {c : Nat} (hc : c < 10) (htl : ∀ i, i < 7200 → σ.1 6 i = -1 ∨ okN σ 6 i 1000000) (hpy : ∀ i, i < 7200 → okN σ 7 i 1000000) : ∀ i, i < 7200 → okN (spS σ c 720) 7 i 1000000 := by
  intro i hi
  by_cases h : 720 * c ≤ i ∧ i < 720 * c + 720
  · obtain ⟨m, hm, e⟩ := spreadV_ok htl hc (show i - 720 * c + 1 ≤ 720 by omega)
    exact okN_of (show (if 7 = 7 ∧ 720 * c ≤ i ∧ i < 720 * c + 720 then spreadV σ c (i - 720 * c + 1) else σ.1 7 i) = nI m by rw [if_pos ⟨rfl, h⟩]; exact e) hm (by decide)
  · exact okN_cg (show (if 7 = 7 ∧ 720 * c ≤ i ∧ i < 720 * c + 720 then spreadV σ c (i - 720 * c + 1) else σ.1 7 i) = σ.1 7 i from if_neg (fun q => h q.2)) (hpy i hi)
theorem sp_pyt {σ : Mu} {c : Nat} (hpt : ∀ a d, a < 10 → d < 720 → a ≠ c → σ.1 7 (720 * a + d) = spreadV σ a (d + 1)) : ∀ a d, a < 10 → d < 720 → (spS σ c 720).1 7 (720 * a + d) = spreadV (spS σ c 720) a (d + 1) := by
  intro a d ha hd
  rw [spreadV_cg (τ := σ) (τ' := spS σ c 720) (c := a) (d := d + 1) (fun _ _ => rfl)]
  show (if 7 = 7 ∧ 720 * c ≤ 720 * a + d ∧ 720 * a + d < 720 * c + 720 then spreadV σ c (720 * a + d - 720 * c + 1) else σ.1 7 (720 * a + d)) = _
  by_cases z : a = c
  · subst z; rw [if_pos ⟨rfl, by omega, by omega⟩, Nat.add_sub_cancel_left]
  · rw [if_neg (fun q => by omega)]; exact hpt a d ha hd z
theorem sp_row {τ σ : Mu} (hw : WF τ) {c j : Nat} (hj : 720 * c ≤ j ∧ j < 720 * c + 720) (h6 : ∀ x, x ≠ j → σ.1 6 x = τ.1 6 x) (h7 : ∀ x, σ.1 7 x = τ.1 7 x) : ∀ a d, a < 10 → d < 720 → a ≠ c → σ.1 7 (720 * a + d) = spreadV σ a (d + 1) := by
  intro a d ha hd hac
  rw [h7, hw.pyt a d ha hd]
  exact (spreadV_cg (fun i hi => h6 _ (by omega))).symm
def coU (τ : Mu) (p q f t b w v : Nat) : Mu := sI (sI (sI (sI (sI (sI (sI τ 0 (un τ 9 9) (nI p)) 1 (un τ 9 9) (nI q)) 2 (un τ 9 9) (nI f)) 3 (un τ 9 9) (nI t)) 4 (un τ 9 9) (nI b)) 5 (un τ 9 9) (nI w)) 6 (720 * un τ 9 9 + f) (nI v)
def coV (τ : Mu) (p q f t b w v : Nat) : Mu := sI (spS (coU τ p q f t b w v) (un τ 9 9) 720) 9 9 (nI (un τ 9 9 + 1))
theorem wf_contract {τ : Mu} (hw : WF τ) {p q f t b w v : Nat} (hn : un τ 9 9 ≠ 10) (hp : p ≤ 5) (hq : q ≤ 2) (hft : f ≤ t) (ht : t ≤ 719) (hb : b ≤ 1) (hw0 : 60 ≤ w) (hw6 : w ≤ 600) (hv : v ≤ 1000000) : WF (coV τ p q f t b w v) := by
  have hn2 := hw.nc.2
  have e9 : un (coV τ p q f t b w v) 9 9 = un τ 9 9 + 1 := nI_clamp (by omega)
  have s2 : (coV τ p q f t b w v).1 2 (un τ 9 9) = nI f := sI_s (τ := τ) (k := 2) (x := un τ 9 9) (v := nI f)
  have k2 : ∀ c, c ≠ un τ 9 9 → (coV τ p q f t b w v).1 2 c = τ.1 2 c := fun c hc => sI_k (τ := τ) (k := 2) (x := un τ 9 9) (v := nI f) hc
  have s3 : (coV τ p q f t b w v).1 3 (un τ 9 9) = nI t := sI_s (τ := τ) (k := 3) (x := un τ 9 9) (v := nI t)
  have k3 : ∀ c, c ≠ un τ 9 9 → (coV τ p q f t b w v).1 3 c = τ.1 3 c := fun c hc => sI_k (τ := τ) (k := 3) (x := un τ 9 9) (v := nI t) hc
  have s5 : (coV τ p q f t b w v).1 5 (un τ 9 9) = nI w := sI_s (τ := τ) (k := 5) (x := un τ 9 9) (v := nI w)
  have k5 : ∀ c, c ≠ un τ 9 9 → (coV τ p q f t b w v).1 5 c = τ.1 5 c := fun c hc => sI_k (τ := τ) (k := 5) (x := un τ 9 9) (v := nI w) hc
  have htl : ∀ i, i < 7200 → (coU τ p q f t b w v).1 6 i = -1 ∨ okN (coU τ p q f t b w v) 6 i 1000000 := fun i hi => okM_set (τ := sI (sI (sI (sI (sI (sI τ 0 (un τ 9 9) (nI p)) 1 (un τ 9 9) (nI q)) 2 (un τ 9 9) (nI f)) 3 (un τ 9 9) (nI t)) 4 (un τ 9 9) (nI b)) 5 (un τ 9 9) (nI w)) (k := 6) (n := 720 * un τ 9 9 + f) (v := v) hv (by decide) (hw.tl i hi)
  exact ⟨(okN_of rfl (by omega) (by decide)),
    (fun c hc => by rw [e9] at hc; exact okN_app (τ := τ) (k := 0) (n := un τ 9 9) (v := p) hp (by decide) (fun z => hw.cw c z) hc),
    (fun c hc => by rw [e9] at hc; exact okN_app (τ := τ) (k := 1) (n := un τ 9 9) (v := q) hq (by decide) (fun z => hw.cp c z) hc),
    (fun c hc => by rw [e9] at hc; exact okN_app (τ := τ) (k := 2) (n := un τ 9 9) (v := f) (by omega) (by decide) (fun z => hw.cf c z) hc),
    (fun c hc => by rw [e9] at hc; exact okN_app (τ := τ) (k := 3) (n := un τ 9 9) (v := t) ht (by decide) (fun z => hw.ct c z) hc),
    (fun c hc => by
      rw [e9] at hc
      by_cases z : c = un τ 9 9
      · rw [z, un_of s2 (by omega), un_of s3 (by omega)]; exact hft
      · rw [un_cg (k2 c z), un_cg (k3 c z)]; exact hw.cft c (by omega)),
    (fun c hc => by rw [e9] at hc; exact okN_app (τ := τ) (k := 4) (n := un τ 9 9) (v := b) hb (by decide) (fun z => hw.ch c z) hc),
    (fun c hc => by rw [e9] at hc; exact okN_app (τ := τ) (k := 5) (n := un τ 9 9) (v := w) hw6 (by decide) (fun z => hw.cn c z) hc),
    (fun c hc => by
      rw [e9] at hc
      by_cases z : c = un τ 9 9
      · rw [z, un_of s5 (by omega)]; exact hw0
      · rw [un_cg (k5 c z)]; exact hw.cn0 c (by omega)),
    (sp_py (σ := coU τ p q f t b w v) (by omega) htl hw.py),
    (htl),
    (fun c_ d_ h1_ h2_ => (sp_pyt (σ := coU τ p q f t b w v) (c := un τ 9 9) (sp_row hw (j := 720 * un τ 9 9 + f) (by omega) (fun x hx => sI_k (τ := sI (sI (sI (sI (sI (sI τ 0 (un τ 9 9) (nI p)) 1 (un τ 9 9) (nI q)) 2 (un τ 9 9) (nI f)) 3 (un τ 9 9) (nI t)) 4 (un τ 9 9) (nI b)) 5 (un τ 9 9) (nI w)) (k := 6) hx) (fun _ => rfl)) c_ d_ h1_ h2_).trans (spreadV_cg (τ := spS (coU τ p q f t b w v) (un τ 9 9) 720) (τ' := coV τ p q f t b w v) (c := c_) (d := d_ + 1) (fun _ _ => rfl)).symm),
    (hw.mn),
    (fun c d hc hd => by
      rw [e9] at hc
      by_cases z : c = un τ 9 9
      · rw [z, un_of s2 (by omega)] at hd; rw [z]; exact hw.mn1 _ (by omega) (by omega)
      · rw [un_cg (k2 c z)] at hd; exact hw.mn0 c d (by omega) hd),
    (fun i hi h9_ => by rw [e9] at h9_; exact hw.mn1 i hi (by omega)),
    (hw.sh),
    (fun k hk => ⟨(hw.sc k hk).1, by rw [e9]; have := (hw.sc k hk).2; exact Nat.lt_succ_of_lt this⟩),
    (hw.sb),
    (hw.sl),
    (hw.nl),
    (fun k hk => ⟨(hw.lc k hk).1, by rw [e9]; have := (hw.lc k hk).2; exact Nat.lt_succ_of_lt this⟩),
    (fun k hk => by
      have a1 := hw.ld k hk
      have a2 := (hw.lc k hk).2
      have b2 : un (coV τ p q f t b w v) 2 (un τ 14 k) = un τ 2 (un τ 14 k) := un_cg (k2 _ (by omega))
      have b3 : un (coV τ p q f t b w v) 3 (un τ 14 k) = un τ 3 (un τ 14 k) := un_cg (k3 _ (by omega))
      refine ⟨a1.1, ?_, ?_⟩
      · exact b2 ▸ a1.2.1
      · exact b3 ▸ a1.2.2),
    (hw.rt),
    (hw.ca),
    (hw.te),
    (hw.ne),
    (hw.el),
    (hw.ew),
    (hw.en),
    (hw.ep),
    ((elEq.rf (τ := τ) (τ' := (coV τ p q f t b w v)) (fun _ => rfl) (fun _ => rfl) (fun _ => rfl) rfl).fm hw),
    (dr_cg hw (fun _ => rfl) (fun _ => rfl)),
    (hw.od),
    ((elEq.rf (τ := τ) (τ' := (coV τ p q f t b w v)) (fun _ => rfl) (fun _ => rfl) (fun _ => rfl) rfl).or hw (fun _ => rfl)),
    ((elEq.rf (τ := τ) (τ' := (coV τ p q f t b w v)) (fun _ => rfl) (fun _ => rfl) (fun _ => rfl) rfl).ac hw),
    (hw.cr),
    (hw.cc),
    (hw.bn),
    (hw.be),
    (hw.bt),
    (hw.st),
    (hw.pt),
    (hw.bo),
    (hw.ng),
    (hw.gw),
    (hw.gm),
    (hw.gr),
    (hw.gt),
    (hw.gp),
    (hw.gk),
    (hw.op),
    (hw.np),
    (hw.pw),
    (hw.pm),
    (hw.pb)⟩
theorem wf_pay {τ : Mu} (hw : WF τ) {c j v : Nat} (hc : c < 10) (hj : 720 * c ≤ j ∧ j < 720 * c + 720) (hv : v ≤ 1000000) : WF (spS (sI τ 6 j (nI v)) c 720) := by
  have htl : ∀ i, i < 7200 → (sI τ 6 j (nI v)).1 6 i = -1 ∨ okN (sI τ 6 j (nI v)) 6 i 1000000 := fun i hi => okM_set (τ := τ) (k := 6) (n := j) (v := v) hv (by decide) (hw.tl i hi)
  exact ⟨(hw.nc),
    (hw.cw),
    (hw.cp),
    (hw.cf),
    (hw.ct),
    (hw.cft),
    (hw.ch),
    (hw.cn),
    (hw.cn0),
    (sp_py (σ := sI τ 6 j (nI v)) hc htl hw.py),
    (htl),
    (sp_pyt (σ := sI τ 6 j (nI v)) (c := c) (sp_row hw hj (fun x hx => sI_k (τ := τ) (k := 6) hx) (fun _ => rfl))),
    (hw.mn),
    (hw.mn0),
    (hw.mn1),
    (hw.sh),
    (hw.sc),
    (hw.sb),
    (hw.sl),
    (hw.nl),
    (hw.lc),
    (hw.ld),
    (hw.rt),
    (hw.ca),
    (hw.te),
    (hw.ne),
    (hw.el),
    (hw.ew),
    (hw.en),
    (hw.ep),
    ((elEq.rf (τ := τ) (τ' := (spS (sI τ 6 j (nI v)) c 720)) (fun _ => rfl) (fun _ => rfl) (fun _ => rfl) rfl).fm hw),
    (dr_cg hw (fun _ => rfl) (fun _ => rfl)),
    (hw.od),
    ((elEq.rf (τ := τ) (τ' := (spS (sI τ 6 j (nI v)) c 720)) (fun _ => rfl) (fun _ => rfl) (fun _ => rfl) rfl).or hw (fun _ => rfl)),
    ((elEq.rf (τ := τ) (τ' := (spS (sI τ 6 j (nI v)) c 720)) (fun _ => rfl) (fun _ => rfl) (fun _ => rfl) rfl).ac hw),
    (hw.cr),
    (hw.cc),
    (hw.bn),
    (hw.be),
    (hw.bt),
    (hw.st),
    (hw.pt),
    (hw.bo),
    (hw.ng),
    (hw.gw),
    (hw.gm),
    (hw.gr),
    (hw.gt),
    (hw.gp),
    (hw.gk),
    (hw.op),
    (hw.np),
    (hw.pw),
    (hw.pm),
    (hw.pb)⟩

