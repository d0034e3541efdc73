/-! THE REFERENCE: what was told stays as the document bounds it -/
theorem spreadV_cg {τ τ' : Mu} {c : Nat} : ∀ {d : Nat}, (∀ j, j < d → τ'.1 6 (720 * c + j) = τ.1 6 (720 * c + j)) → spreadV τ' c d = spreadV τ c d
  | 0, _ => rfl
  | d + 1, h => by
    show (if 0 ≤ τ'.1 6 (720 * c + d) then τ'.1 6 (720 * c + d) else spreadV τ' c d) = (if 0 ≤ τ.1 6 (720 * c + d) then τ.1 6 (720 * c + d) else spreadV τ c d)
    rw [h d (by omega), spreadV_cg (fun j hj => h j (by omega))]
theorem spreadV_ok {τ : Mu} (h : ∀ i, i < 7200 → τ.1 6 i = -1 ∨ okN τ 6 i 1000000) {c : Nat} (hc : c < 10) : ∀ {d : Nat}, d ≤ 720 → ∃ m, m ≤ 1000000 ∧ spreadV τ c d = nI m
  | 0, _ => ⟨0, by omega, rfl⟩
  | d + 1, hd => by
    show ∃ m, m ≤ 1000000 ∧ (if 0 ≤ τ.1 6 (720 * c + d) then τ.1 6 (720 * c + d) else spreadV τ c d) = nI m
    split
    · rename_i z
      rcases h (720 * c + d) (by omega) with q | q
      · rw [q] at z; exact absurd z (by decide)
      · exact ⟨_, q.2, q.1⟩
    · exact spreadV_ok h hc (by omega)
theorem okN_of {τ : Mu} {k i v b : Nat} (h : τ.1 k i = nI v) (hv : v ≤ b) (hb : b < 2 ^ 31) : okN τ k i b := by
  have e : un τ k i = v := by unfold un; rw [h]; exact nI_clamp (by omega)
  exact ⟨by rw [e]; exact h, by omega⟩
theorem un_of {τ : Mu} {k i v : Nat} (h : τ.1 k i = nI v) (hv : v < 2 ^ 31) : un τ k i = v := by unfold un; rw [h]; exact nI_clamp hv
theorem un_cg {τ τ' : Mu} {k i : Nat} (h : τ'.1 k i = τ.1 k i) : un τ' k i = un τ k i := by unfold un; rw [h]
theorem okN_cg {τ τ' : Mu} {k i b : Nat} (h : τ'.1 k i = τ.1 k i) (g : okN τ k i b) : okN τ' k i b := by unfold okN; rw [un_cg h, h]; exact g
theorem okN_app {τ : Mu} {k n v b c : Nat} (hv : v ≤ b) (hb : b < 2 ^ 31) (h : c < n → okN τ k c b) (hc : c < n + 1) : okN (sI τ k n (nI v)) k c b := by
  by_cases z : c = n
  · subst z; exact okN_of sI_s hv hb
  · exact okN_cg (sI_k z) (h (by omega))
theorem okN_set {τ : Mu} {k n v b c : Nat} (hv : v ≤ b) (hb : b < 2 ^ 31) (h : okN τ k c b) : okN (sI τ k n (nI v)) k c b := by
  by_cases z : c = n
  · subst z; exact okN_of sI_s hv hb
  · exact okN_cg (sI_k z) h
theorem okM_set {τ : Mu} {k n v b c : Nat} (hv : v ≤ b) (hb : b < 2 ^ 31) (h : τ.1 k c = -1 ∨ okN τ k c b) : (sI τ k n (nI v)).1 k c = -1 ∨ okN (sI τ k n (nI v)) k c b := by
  by_cases z : c = n
  · subst z; exact .inr (okN_of sI_s hv hb)
  · rcases h with h | h
    · exact .inl ((sI_k z).trans h)
    · exact .inr (okN_cg (sI_k z) h)
theorem fmD_cg {τ τ' : Mu} {e : Nat} : ∀ {k : Nat}, (∀ j, j < k → τ'.1 22 (10 * e + j) = τ.1 22 (10 * e + j)) → fmD τ' e k = fmD τ e k
  | 0, _ => rfl
  | k + 1, h => by
    have ih := fmD_cg (τ := τ) (τ' := τ') (e := e) (k := k) (fun j hj => h j (by omega))
    unfold fmD
    rw [ih, un_cg (h k (by omega))]
theorem fmOK_cg {τ τ' : Mu} {e n : Nat} (h : ∀ j, j < n → τ'.1 22 (10 * e + j) = τ.1 22 (10 * e + j)) (g : fmOK τ e n) : fmOK τ' e n := fun k hk h4 => by
  rw [fmD_cg (fun j hj => h j (by omega))]
  exact g k hk (by rw [← un_cg (h k hk)]; exact h4)
theorem needK_cg' {τ τ' : Mu} {e : Nat} : ∀ {k : Nat}, (∀ j, j < k → τ'.1 22 (10 * e + j) = τ.1 22 (10 * e + j) ∧ τ'.1 23 (10 * e + j) = τ.1 23 (10 * e + j)) → needK τ' e k = needK τ e k
  | 0, _ => rfl
  | k + 1, h => by
    have ih := needK_cg' (τ := τ) (τ' := τ') (e := e) (k := k) (fun j hj => h j (by omega))
    unfold needK
    rw [ih, un_cg (h k (by omega)).1, un_cg (h k (by omega)).2]
/-- elements agree -/
def elEq (τ τ' : Mu) : Prop := (∀ e, e < un τ 26 26 → τ'.1 24 e = τ.1 24 e ∧ ∀ j, j < 10 → τ'.1 22 (10 * e + j) = τ.1 22 (10 * e + j) ∧ τ'.1 23 (10 * e + j) = τ.1 23 (10 * e + j)) ∧ τ'.1 26 26 = τ.1 26 26
theorem elEq.need {τ τ' : Mu} (hw : WF τ) (h : elEq τ τ') {e : Nat} (he : e < un τ 26 26) : needN τ' e = needN τ e := by
  have h2 := (hw.el e (by have := hw.ne.2; omega)).2
  unfold needN
  rw [un_cg (h.1 e he).1]
  exact needK_cg' (fun j hj => (h.1 e he).2 j (by omega))
theorem fstN_cg {f g : Nat → Bool} : ∀ {n : Nat}, (∀ k, k < n → f k = g k) → fstN f n = fstN g n
  | 0, _ => rfl
  | n + 1, h => by
    show (match fstN f n with | some j => some j | none => if f n = true then some n else none) = (match fstN g n with | some j => some j | none => if g n = true then some n else none)
    rw [fstN_cg (fun k hk => h k (by omega)), h n (by omega)]
theorem elEq.aS {τ τ' : Mu} (hw : WF τ) (h : elEq τ τ') (D : Nat) : arrS τ' D = arrS τ D := by
  unfold arrS
  rw [un_cg h.2, fstN_cg (f := fitB τ' D) (g := fitB τ D) (fun k hk => by unfold fitB; rw [un_cg h.2, h.need hw hk])]
theorem elEq.aD {τ τ' : Mu} (hw : WF τ) (h : elEq τ τ') : ∀ k, arrD τ' k = arrD τ k
  | 0 => rfl
  | k + 1 => by
    show arrD τ' k ||| 2 ^ arrS τ' (arrD τ' k) = arrD τ k ||| 2 ^ arrS τ (arrD τ k)
    rw [elEq.aD hw h k, h.aS hw]
theorem elEq.fm {τ τ' : Mu} (hw : WF τ) (h : elEq τ τ') : ∀ e, e < un τ' 26 26 → fmOK τ' e (un τ' 24 e) ∧ fmD τ' e (un τ' 24 e) = 1 := by
  intro e he
  rw [un_cg h.2] at he
  have h2 := (hw.el e (by have := hw.ne.2; omega)).2
  rw [un_cg (h.1 e he).1]
  exact ⟨fmOK_cg (fun j hj => ((h.1 e he).2 j (by omega)).1) (hw.fm e he).1, (fmD_cg (fun j hj => ((h.1 e he).2 j (by omega)).1)).trans (hw.fm e he).2⟩
theorem elEq.or {τ τ' : Mu} (hw : WF τ) (h : elEq τ τ') (h27 : ∀ x, τ'.1 27 x = τ.1 27 x) : ∀ k, k < un τ' 26 26 → un τ' 27 k = arrS τ' (arrD τ' k) := by
  intro k hk
  rw [un_cg h.2] at hk
  rw [un_cg (h27 k), h.aS hw, h.aD hw]
  exact hw.or k hk
theorem elEq.ac {τ τ' : Mu} (hw : WF τ) (h : elEq τ τ') : acyc τ' := by
  obtain ⟨rk, hr⟩ := hw.ac
  refine ⟨rk, fun e f he hf hn => ?_⟩
  rw [un_cg h.2] at he hf
  rw [h.need hw he] at hn
  exact hr e f he hf hn
theorem elEq.rf {τ τ' : Mu} (h22 : ∀ x, τ'.1 22 x = τ.1 22 x) (h23 : ∀ x, τ'.1 23 x = τ.1 23 x) (h24 : ∀ x, τ'.1 24 x = τ.1 24 x) (h26 : τ'.1 26 26 = τ.1 26 26) : elEq τ τ' := ⟨fun e _ => ⟨h24 e, fun j _ => ⟨h22 _, h23 _⟩⟩, h26⟩
theorem dr_cg {τ τ' : Mu} (hw : WF τ) (h22 : ∀ x, τ'.1 22 x = τ.1 22 x) (h24 : ∀ x, τ'.1 24 x = τ.1 24 x) : fmOK τ' 6 (un τ' 24 6) := by
  rw [un_cg (h24 6)]; exact fmOK_cg (fun j _ => h22 _) hw.dr
theorem wf_leaveRule {τ : Mu} (hw : WF τ) {a b c : Nat} (ha : a ≤ 50) (hb : b ≤ 500) (hc : c ≤ 12) : WF (sI (sI (sI τ 18 18 (nI a)) 19 19 (nI b)) 20 20 (nI c)) := by
  exact ⟨(hw.nc),
    (hw.cw),
    (hw.cp),
    (hw.cf),
    (hw.ct),
    (hw.cft),
    (hw.ch),
    (hw.cn),
    (hw.cn0),
    (hw.py),
    (hw.tl),
    (fun c_ d_ h1_ h2_ => (hw.pyt c_ d_ h1_ h2_).trans (spreadV_cg (τ := τ) (τ' := (sI (sI (sI τ 18 18 (nI a)) 19 19 (nI b)) 20 20 (nI c))) (c := c_) (d := d_ + 1) (fun _ _ => rfl)).symm),
    (hw.mn),
    (hw.mn0),
    (hw.mn1),
    (hw.sh),
    (hw.sc),
    (hw.sb),
    (hw.sl),
    (hw.nl),
    (hw.lc),
    (hw.ld),
    (okN_of rfl ha (by decide)),
    (okN_of rfl hb (by decide)),
    (okN_of rfl hc (by decide)),
    (hw.ne),
    (hw.el),
    (hw.ew),
    (hw.en),
    (hw.ep),
    ((elEq.rf (τ := τ) (τ' := (sI (sI (sI τ 18 18 (nI a)) 19 19 (nI b)) 20 20 (nI c))) (fun _ => rfl) (fun _ => rfl) (fun _ => rfl) rfl).fm hw),
    (dr_cg hw (fun _ => rfl) (fun _ => rfl)),
    (hw.od),
    ((elEq.rf (τ := τ) (τ' := (sI (sI (sI τ 18 18 (nI a)) 19 19 (nI b)) 20 20 (nI c))) (fun _ => rfl) (fun _ => rfl) (fun _ => rfl) rfl).or hw (fun _ => rfl)),
    ((elEq.rf (τ := τ) (τ' := (sI (sI (sI τ 18 18 (nI a)) 19 19 (nI b)) 20 20 (nI c))) (fun _ => rfl) (fun _ => rfl) (fun _ => rfl) rfl).ac hw),
    (hw.cr),
    (hw.cc),
    (hw.bn),
    (hw.be),
    (hw.bt),
    (hw.st),
    (hw.pt),
    (hw.bo),
    (hw.ng),
    (hw.gw),
    (hw.gm),
    (hw.gr),
    (hw.gt),
    (hw.gp),
    (hw.gk),
    (hw.op),
    (hw.np),
    (hw.pw),
    (hw.pm),
    (hw.pb)⟩

theorem lc_app {τ : Mu} {n c d k : Nat} (hc : c < un τ 9 9) (h9 : c ≤ 9) (h : k < n → okN τ 14 k 9 ∧ un τ 14 k < un τ 9 9) (hk : k < n + 1) : okN (sI (sI (sI τ 14 n (nI c)) 15 n (nI d)) 17 17 (nI (n + 1))) 14 k 9 ∧ un (sI (sI (sI τ 14 n (nI c)) 15 n (nI d)) 17 17 (nI (n + 1))) 14 k < un τ 9 9 := by
  by_cases z : k = n
  · subst z
    have e : (sI (sI (sI τ 14 k (nI c)) 15 k (nI d)) 17 17 (nI (k + 1))).1 14 k = nI c := sI_s (τ := τ) (k := 14) (x := k) (v := nI c)
    exact ⟨okN_of e h9 (by decide), by rw [un_of e (by omega)]; exact hc⟩
  · have e : (sI (sI (sI τ 14 n (nI c)) 15 n (nI d)) 17 17 (nI (n + 1))).1 14 k = τ.1 14 k := sI_k (τ := τ) (k := 14) (x := n) (y := k) (v := nI c) z
    have h2 := h (by omega)
    exact ⟨okN_cg e h2.1, by rw [un_cg e]; exact h2.2⟩
theorem ld_app {τ : Mu} {n c d k : Nat} (h1 : un τ 2 c ≤ d) (h2 : d ≤ un τ 3 c) (h9 : d ≤ 719 ∧ c < 10) (h : k < n → okN τ 15 k 719 ∧ un τ 2 (un τ 14 k) ≤ un τ 15 k ∧ un τ 15 k ≤ un τ 3 (un τ 14 k)) (hk : k < n + 1) :
    okN (sI (sI (sI τ 14 n (nI c)) 15 n (nI d)) 17 17 (nI (n + 1))) 15 k 719 ∧ un τ 2 (un (sI (sI (sI τ 14 n (nI c)) 15 n (nI d)) 17 17 (nI (n + 1))) 14 k) ≤ un (sI (sI (sI τ 14 n (nI c)) 15 n (nI d)) 17 17 (nI (n + 1))) 15 k ∧ un (sI (sI (sI τ 14 n (nI c)) 15 n (nI d)) 17 17 (nI (n + 1))) 15 k ≤ un τ 3 (un (sI (sI (sI τ 14 n (nI c)) 15 n (nI d)) 17 17 (nI (n + 1))) 14 k) := by
  by_cases z : k = n
  · subst z
    have e : (sI (sI (sI τ 14 k (nI c)) 15 k (nI d)) 17 17 (nI (k + 1))).1 14 k = nI c := sI_s (τ := τ) (k := 14) (x := k) (v := nI c)
    have f : (sI (sI (sI τ 14 k (nI c)) 15 k (nI d)) 17 17 (nI (k + 1))).1 15 k = nI d := sI_s (τ := sI τ 14 k (nI c)) (k := 15) (x := k) (v := nI d)
    rw [un_of e (by omega), un_of f (by omega)]
    exact ⟨okN_of f h9.1 (by decide), h1, h2⟩
  · have e : (sI (sI (sI τ 14 n (nI c)) 15 n (nI d)) 17 17 (nI (n + 1))).1 14 k = τ.1 14 k := sI_k (τ := τ) (k := 14) (x := n) (y := k) (v := nI c) z
    have f : (sI (sI (sI τ 14 n (nI c)) 15 n (nI d)) 17 17 (nI (n + 1))).1 15 k = τ.1 15 k := sI_k (τ := sI τ 14 n (nI c)) (k := 15) (x := n) (y := k) (v := nI d) z
    have h3 := h (by omega)
    rw [un_cg e, un_cg f]
    exact ⟨okN_cg f h3.1, h3.2⟩
theorem wf_leave {τ : Mu} (hw : WF τ) {c d : Nat} (hl : un τ 17 17 ≠ 30) (hc : c < un τ 9 9) (h1 : un τ 2 c ≤ d) (h2 : d ≤ un τ 3 c) : WF (sI (sI (sI τ 14 (un τ 17 17) (nI c)) 15 (un τ 17 17) (nI d)) 17 17 (nI (un τ 17 17 + 1))) := by
  have h9 := hw.nc.2
  have hct := (hw.ct c hc).2
  have hl2 := hw.nl.2
  have e17 : un (sI (sI (sI τ 14 (un τ 17 17) (nI c)) 15 (un τ 17 17) (nI d)) 17 17 (nI (un τ 17 17 + 1))) 17 17 = un τ 17 17 + 1 := nI_clamp (by omega)
  exact ⟨(hw.nc),
    (hw.cw),
    (hw.cp),
    (hw.cf),
    (hw.ct),
    (hw.cft),
    (hw.ch),
    (hw.cn),
    (hw.cn0),
    (hw.py),
    (hw.tl),
    (fun c_ d_ h1_ h2_ => (hw.pyt c_ d_ h1_ h2_).trans (spreadV_cg (τ := τ) (τ' := (sI (sI (sI τ 14 (un τ 17 17) (nI c)) 15 (un τ 17 17) (nI d)) 17 17 (nI (un τ 17 17 + 1)))) (c := c_) (d := d_ + 1) (fun _ _ => rfl)).symm),
    (hw.mn),
    (hw.mn0),
    (hw.mn1),
    (hw.sh),
    (hw.sc),
    (hw.sb),
    (hw.sl),
    (okN_of rfl (by omega) (by decide)),
    (fun k hk => by rw [e17] at hk; exact lc_app hc (by omega) (fun q => hw.lc k q) hk),
    (fun k hk => by rw [e17] at hk; exact ld_app h1 h2 (by omega) (fun q => hw.ld k q) hk),
    (hw.rt),
    (hw.ca),
    (hw.te),
    (hw.ne),
    (hw.el),
    (hw.ew),
    (hw.en),
    (hw.ep),
    ((elEq.rf (τ := τ) (τ' := (sI (sI (sI τ 14 (un τ 17 17) (nI c)) 15 (un τ 17 17) (nI d)) 17 17 (nI (un τ 17 17 + 1)))) (fun _ => rfl) (fun _ => rfl) (fun _ => rfl) rfl).fm hw),
    (dr_cg hw (fun _ => rfl) (fun _ => rfl)),
    (hw.od),
    ((elEq.rf (τ := τ) (τ' := (sI (sI (sI τ 14 (un τ 17 17) (nI c)) 15 (un τ 17 17) (nI d)) 17 17 (nI (un τ 17 17 + 1)))) (fun _ => rfl) (fun _ => rfl) (fun _ => rfl) rfl).or hw (fun _ => rfl)),
    ((elEq.rf (τ := τ) (τ' := (sI (sI (sI τ 14 (un τ 17 17) (nI c)) 15 (un τ 17 17) (nI d)) 17 17 (nI (un τ 17 17 + 1)))) (fun _ => rfl) (fun _ => rfl) (fun _ => rfl) rfl).ac hw),
    (hw.cr),
    (hw.cc),
    (hw.bn),
    (hw.be),
    (hw.bt),
    (hw.st),
    (hw.pt),
    (hw.bo),
    (hw.ng),
    (hw.gw),
    (hw.gm),
    (hw.gr),
    (hw.gt),
    (hw.gp),
    (hw.gk),
    (hw.op),
    (hw.np),
    (hw.pw),
    (hw.pm),
    (hw.pb)⟩
theorem wf_bonus {τ : Mu} (hw : WF τ) {i : Nat} {t : Int32} (h1 : -10000000 ≤ t.toInt) (h2 : t.toInt ≤ 12000000) : WF (sI τ 30 i t) := by
  exact ⟨(hw.nc),
    (hw.cw),
    (hw.cp),
    (hw.cf),
    (hw.ct),
    (hw.cft),
    (hw.ch),
    (hw.cn),
    (hw.cn0),
    (hw.py),
    (hw.tl),
    (fun c_ d_ h1_ h2_ => (hw.pyt c_ d_ h1_ h2_).trans (spreadV_cg (τ := τ) (τ' := (sI τ 30 i t)) (c := c_) (d := d_ + 1) (fun _ _ => rfl)).symm),
    (hw.mn),
    (hw.mn0),
    (hw.mn1),
    (hw.sh),
    (hw.sc),
    (hw.sb),
    (hw.sl),
    (hw.nl),
    (hw.lc),
    (hw.ld),
    (hw.rt),
    (hw.ca),
    (hw.te),
    (hw.ne),
    (hw.el),
    (hw.ew),
    (hw.en),
    (hw.ep),
    ((elEq.rf (τ := τ) (τ' := (sI τ 30 i t)) (fun _ => rfl) (fun _ => rfl) (fun _ => rfl) rfl).fm hw),
    (dr_cg hw (fun _ => rfl) (fun _ => rfl)),
    (hw.od),
    ((elEq.rf (τ := τ) (τ' := (sI τ 30 i t)) (fun _ => rfl) (fun _ => rfl) (fun _ => rfl) rfl).or hw (fun _ => rfl)),
    ((elEq.rf (τ := τ) (τ' := (sI τ 30 i t)) (fun _ => rfl) (fun _ => rfl) (fun _ => rfl) rfl).ac hw),
    (hw.cr),
    (hw.cc),
    (hw.bn),
    (hw.be),
    (hw.bt),
    (hw.st),
    (hw.pt),
    (fun j hj => by by_cases z : j = i; (rw [show (sI τ 30 i t).1 30 j = t by rw [z]; exact sI_s]; exact ⟨h1, h2⟩); (rw [show (sI τ 30 i t).1 30 j = τ.1 30 j from sI_k z]; exact hw.bo j hj)),
    (hw.ng),
    (hw.gw),
    (hw.gm),
    (hw.gr),
    (hw.gt),
    (hw.gp),
    (hw.gk),
    (hw.op),
    (hw.np),
    (hw.pw),
    (hw.pm),
    (hw.pb)⟩
theorem wf_contribution {τ : Mu} (hw : WF τ) {i a b : Nat} (ha : a ≤ 500) (hb : b ≤ 100000000) : WF (sI (sI τ 31 i (nI a)) 32 i (nI b)) := by
  exact ⟨(hw.nc),
    (hw.cw),
    (hw.cp),
    (hw.cf),
    (hw.ct),
    (hw.cft),
    (hw.ch),
    (hw.cn),
    (hw.cn0),
    (hw.py),
    (hw.tl),
    (fun c_ d_ h1_ h2_ => (hw.pyt c_ d_ h1_ h2_).trans (spreadV_cg (τ := τ) (τ' := (sI (sI τ 31 i (nI a)) 32 i (nI b))) (c := c_) (d := d_ + 1) (fun _ _ => rfl)).symm),
    (hw.mn),
    (hw.mn0),
    (hw.mn1),
    (hw.sh),
    (hw.sc),
    (hw.sb),
    (hw.sl),
    (hw.nl),
    (hw.lc),
    (hw.ld),
    (hw.rt),
    (hw.ca),
    (hw.te),
    (hw.ne),
    (hw.el),
    (hw.ew),
    (hw.en),
    (hw.ep),
    ((elEq.rf (τ := τ) (τ' := (sI (sI τ 31 i (nI a)) 32 i (nI b))) (fun _ => rfl) (fun _ => rfl) (fun _ => rfl) rfl).fm hw),
    (dr_cg hw (fun _ => rfl) (fun _ => rfl)),
    (hw.od),
    ((elEq.rf (τ := τ) (τ' := (sI (sI τ 31 i (nI a)) 32 i (nI b))) (fun _ => rfl) (fun _ => rfl) (fun _ => rfl) rfl).or hw (fun _ => rfl)),
    ((elEq.rf (τ := τ) (τ' := (sI (sI τ 31 i (nI a)) 32 i (nI b))) (fun _ => rfl) (fun _ => rfl) (fun _ => rfl) rfl).ac hw),
    (fun j hj => okM_set (τ := τ) ha (by decide) (hw.cr j hj)),
    (fun j hj => okN_set (τ := sI τ 31 i (nI a)) hb (by decide) (hw.cc j hj)),
    (hw.bn),
    (hw.be),
    (hw.bt),
    (hw.st),
    (hw.pt),
    (hw.bo),
    (hw.ng),
    (hw.gw),
    (hw.gm),
    (hw.gr),
    (hw.gt),
    (hw.gp),
    (hw.gk),
    (hw.op),
    (hw.np),
    (hw.pw),
    (hw.pm),
    (hw.pb)⟩
theorem wf_state {τ : Mu} (hw : WF τ) {i a : Nat} (ha : a ≤ 1) : WF (sI τ 36 i (nI a)) := by
  exact ⟨(hw.nc),
    (hw.cw),
    (hw.cp),
    (hw.cf),
    (hw.ct),
    (hw.cft),
    (hw.ch),
    (hw.cn),
    (hw.cn0),
    (hw.py),
    (hw.tl),
    (fun c_ d_ h1_ h2_ => (hw.pyt c_ d_ h1_ h2_).trans (spreadV_cg (τ := τ) (τ' := (sI τ 36 i (nI a))) (c := c_) (d := d_ + 1) (fun _ _ => rfl)).symm),
    (hw.mn),
    (hw.mn0),
    (hw.mn1),
    (hw.sh),
    (hw.sc),
    (hw.sb),
    (hw.sl),
    (hw.nl),
    (hw.lc),
    (hw.ld),
    (hw.rt),
    (hw.ca),
    (hw.te),
    (hw.ne),
    (hw.el),
    (hw.ew),
    (hw.en),
    (hw.ep),
    ((elEq.rf (τ := τ) (τ' := (sI τ 36 i (nI a))) (fun _ => rfl) (fun _ => rfl) (fun _ => rfl) rfl).fm hw),
    (dr_cg hw (fun _ => rfl) (fun _ => rfl)),
    (hw.od),
    ((elEq.rf (τ := τ) (τ' := (sI τ 36 i (nI a))) (fun _ => rfl) (fun _ => rfl) (fun _ => rfl) rfl).or hw (fun _ => rfl)),
    ((elEq.rf (τ := τ) (τ' := (sI τ 36 i (nI a))) (fun _ => rfl) (fun _ => rfl) (fun _ => rfl) rfl).ac hw),
    (hw.cr),
    (hw.cc),
    (hw.bn),
    (hw.be),
    (hw.bt),
    (fun j hj => okM_set (τ := τ) ha (by decide) (hw.st j hj)),
    (hw.pt),
    (hw.bo),
    (hw.ng),
    (hw.gw),
    (hw.gm),
    (hw.gr),
    (hw.gt),
    (hw.gp),
    (hw.gk),
    (hw.op),
    (hw.np),
    (hw.pw),
    (hw.pm),
    (hw.pb)⟩
theorem wf_pension {τ : Mu} (hw : WF τ) {i a : Nat} (ha : a ≤ 200) : WF (sI τ 37 i (nI a)) := by
  exact ⟨(hw.nc),
    (hw.cw),
    (hw.cp),
    (hw.cf),
    (hw.ct),
    (hw.cft),
    (hw.ch),
    (hw.cn),
    (hw.cn0),
    (hw.py),
    (hw.tl),
    (fun c_ d_ h1_ h2_ => (hw.pyt c_ d_ h1_ h2_).trans (spreadV_cg (τ := τ) (τ' := (sI τ 37 i (nI a))) (c := c_) (d := d_ + 1) (fun _ _ => rfl)).symm),
    (hw.mn),
    (hw.mn0),
    (hw.mn1),
    (hw.sh),
    (hw.sc),
    (hw.sb),
    (hw.sl),
    (hw.nl),
    (hw.lc),
    (hw.ld),
    (hw.rt),
    (hw.ca),
    (hw.te),
    (hw.ne),
    (hw.el),
    (hw.ew),
    (hw.en),
    (hw.ep),
    ((elEq.rf (τ := τ) (τ' := (sI τ 37 i (nI a))) (fun _ => rfl) (fun _ => rfl) (fun _ => rfl) rfl).fm hw),
    (dr_cg hw (fun _ => rfl) (fun _ => rfl)),
    (hw.od),
    ((elEq.rf (τ := τ) (τ' := (sI τ 37 i (nI a))) (fun _ => rfl) (fun _ => rfl) (fun _ => rfl) rfl).or hw (fun _ => rfl)),
    ((elEq.rf (τ := τ) (τ' := (sI τ 37 i (nI a))) (fun _ => rfl) (fun _ => rfl) (fun _ => rfl) rfl).ac hw),
    (hw.cr),
    (hw.cc),
    (hw.bn),
    (hw.be),
    (hw.bt),
    (hw.st),
    (fun j hj => okM_set (τ := τ) ha (by decide) (hw.pt j hj)),
    (hw.bo),
    (hw.ng),
    (hw.gw),
    (hw.gm),
    (hw.gr),
    (hw.gt),
    (hw.gp),
    (hw.gk),
    (hw.op),
    (hw.np),
    (hw.pw),
    (hw.pm),
    (hw.pb)⟩
theorem wf_comeBack {τ : Mu} (hw : WF τ) {i : Nat} : WF (sI τ 50 i (nI 1)) := by
  exact ⟨(hw.nc),
    (hw.cw),
    (hw.cp),
    (hw.cf),
    (hw.ct),
    (hw.cft),
    (hw.ch),
    (hw.cn),
    (hw.cn0),
    (hw.py),
    (hw.tl),
    (fun c_ d_ h1_ h2_ => (hw.pyt c_ d_ h1_ h2_).trans (spreadV_cg (τ := τ) (τ' := (sI τ 50 i (nI 1))) (c := c_) (d := d_ + 1) (fun _ _ => rfl)).symm),
    (hw.mn),
    (hw.mn0),
    (hw.mn1),
    (hw.sh),
    (hw.sc),
    (hw.sb),
    (hw.sl),
    (hw.nl),
    (hw.lc),
    (hw.ld),
    (hw.rt),
    (hw.ca),
    (hw.te),
    (hw.ne),
    (hw.el),
    (hw.ew),
    (hw.en),
    (hw.ep),
    ((elEq.rf (τ := τ) (τ' := (sI τ 50 i (nI 1))) (fun _ => rfl) (fun _ => rfl) (fun _ => rfl) rfl).fm hw),
    (dr_cg hw (fun _ => rfl) (fun _ => rfl)),
    (hw.od),
    ((elEq.rf (τ := τ) (τ' := (sI τ 50 i (nI 1))) (fun _ => rfl) (fun _ => rfl) (fun _ => rfl) rfl).or hw (fun _ => rfl)),
    ((elEq.rf (τ := τ) (τ' := (sI τ 50 i (nI 1))) (fun _ => rfl) (fun _ => rfl) (fun _ => rfl) rfl).ac hw),
    (hw.cr),
    (hw.cc),
    (hw.bn),
    (hw.be),
    (hw.bt),
    (hw.st),
    (hw.pt),
    (hw.bo),
    (hw.ng),
    (hw.gw),
    (hw.gm),
    (hw.gr),
    (hw.gt),
    (hw.gp),
    (hw.gk),
    (hw.op),
    (hw.np),
    (hw.pw),
    (hw.pm),
    (fun j hj => okN_set (τ := τ) (by decide) (by decide) (hw.pb j hj))⟩
theorem wf_advance {τ : Mu} (hw : WF τ) {i : Nat} {v : Int64} : WF (sL τ 45 i v) := by
  exact ⟨(hw.nc),
    (hw.cw),
    (hw.cp),
    (hw.cf),
    (hw.ct),
    (hw.cft),
    (hw.ch),
    (hw.cn),
    (hw.cn0),
    (hw.py),
    (hw.tl),
    (fun c_ d_ h1_ h2_ => (hw.pyt c_ d_ h1_ h2_).trans (spreadV_cg (τ := τ) (τ' := (sL τ 45 i v)) (c := c_) (d := d_ + 1) (fun _ _ => rfl)).symm),
    (hw.mn),
    (hw.mn0),
    (hw.mn1),
    (hw.sh),
    (hw.sc),
    (hw.sb),
    (hw.sl),
    (hw.nl),
    (hw.lc),
    (hw.ld),
    (hw.rt),
    (hw.ca),
    (hw.te),
    (hw.ne),
    (hw.el),
    (hw.ew),
    (hw.en),
    (hw.ep),
    ((elEq.rf (τ := τ) (τ' := (sL τ 45 i v)) (fun _ => rfl) (fun _ => rfl) (fun _ => rfl) rfl).fm hw),
    (dr_cg hw (fun _ => rfl) (fun _ => rfl)),
    (hw.od),
    ((elEq.rf (τ := τ) (τ' := (sL τ 45 i v)) (fun _ => rfl) (fun _ => rfl) (fun _ => rfl) rfl).or hw (fun _ => rfl)),
    ((elEq.rf (τ := τ) (τ' := (sL τ 45 i v)) (fun _ => rfl) (fun _ => rfl) (fun _ => rfl) rfl).ac hw),
    (hw.cr),
    (hw.cc),
    (hw.bn),
    (hw.be),
    (hw.bt),
    (hw.st),
    (hw.pt),
    (hw.bo),
    (hw.ng),
    (hw.gw),
    (hw.gm),
    (hw.gr),
    (hw.gt),
    (hw.gp),
    (hw.gk),
    (hw.op),
    (hw.np),
    (hw.pw),
    (hw.pm),
    (hw.pb)⟩
theorem wf_garnish {τ : Mu} (hw : WF τ) {a b c d e f : Nat} (hl : un τ 44 44 ≠ 6) (ha : a ≤ 5) (hb : b ≤ 23) (hc : c ≤ 9) (hd : d ≤ 100000000) (he : e ≤ 1000) (hf : f ≤ 100000000) : WF (sI (sI (sI (sI (sI (sI (sI τ 38 (un τ 44 44) (nI a)) 39 (un τ 44 44) (nI b)) 40 (un τ 44 44) (nI c)) 41 (un τ 44 44) (nI d)) 42 (un τ 44 44) (nI e)) 43 (un τ 44 44) (nI f)) 44 44 (nI (un τ 44 44 + 1))) := by
  have hl2 := hw.ng.2
  have e44 : un (sI (sI (sI (sI (sI (sI (sI τ 38 (un τ 44 44) (nI a)) 39 (un τ 44 44) (nI b)) 40 (un τ 44 44) (nI c)) 41 (un τ 44 44) (nI d)) 42 (un τ 44 44) (nI e)) 43 (un τ 44 44) (nI f)) 44 44 (nI (un τ 44 44 + 1))) 44 44 = un τ 44 44 + 1 := nI_clamp (by omega)
  exact ⟨(hw.nc),
    (hw.cw),
    (hw.cp),
    (hw.cf),
    (hw.ct),
    (hw.cft),
    (hw.ch),
    (hw.cn),
    (hw.cn0),
    (hw.py),
    (hw.tl),
    (fun c_ d_ h1_ h2_ => (hw.pyt c_ d_ h1_ h2_).trans (spreadV_cg (τ := τ) (τ' := (sI (sI (sI (sI (sI (sI (sI τ 38 (un τ 44 44) (nI a)) 39 (un τ 44 44) (nI b)) 40 (un τ 44 44) (nI c)) 41 (un τ 44 44) (nI d)) 42 (un τ 44 44) (nI e)) 43 (un τ 44 44) (nI f)) 44 44 (nI (un τ 44 44 + 1)))) (c := c_) (d := d_ + 1) (fun _ _ => rfl)).symm),
    (hw.mn),
    (hw.mn0),
    (hw.mn1),
    (hw.sh),
    (hw.sc),
    (hw.sb),
    (hw.sl),
    (hw.nl),
    (hw.lc),
    (hw.ld),
    (hw.rt),
    (hw.ca),
    (hw.te),
    (hw.ne),
    (hw.el),
    (hw.ew),
    (hw.en),
    (hw.ep),
    ((elEq.rf (τ := τ) (τ' := (sI (sI (sI (sI (sI (sI (sI τ 38 (un τ 44 44) (nI a)) 39 (un τ 44 44) (nI b)) 40 (un τ 44 44) (nI c)) 41 (un τ 44 44) (nI d)) 42 (un τ 44 44) (nI e)) 43 (un τ 44 44) (nI f)) 44 44 (nI (un τ 44 44 + 1)))) (fun _ => rfl) (fun _ => rfl) (fun _ => rfl) rfl).fm hw),
    (dr_cg hw (fun _ => rfl) (fun _ => rfl)),
    (hw.od),
    ((elEq.rf (τ := τ) (τ' := (sI (sI (sI (sI (sI (sI (sI τ 38 (un τ 44 44) (nI a)) 39 (un τ 44 44) (nI b)) 40 (un τ 44 44) (nI c)) 41 (un τ 44 44) (nI d)) 42 (un τ 44 44) (nI e)) 43 (un τ 44 44) (nI f)) 44 44 (nI (un τ 44 44 + 1)))) (fun _ => rfl) (fun _ => rfl) (fun _ => rfl) rfl).or hw (fun _ => rfl)),
    ((elEq.rf (τ := τ) (τ' := (sI (sI (sI (sI (sI (sI (sI τ 38 (un τ 44 44) (nI a)) 39 (un τ 44 44) (nI b)) 40 (un τ 44 44) (nI c)) 41 (un τ 44 44) (nI d)) 42 (un τ 44 44) (nI e)) 43 (un τ 44 44) (nI f)) 44 44 (nI (un τ 44 44 + 1)))) (fun _ => rfl) (fun _ => rfl) (fun _ => rfl) rfl).ac hw),
    (hw.cr),
    (hw.cc),
    (hw.bn),
    (hw.be),
    (hw.bt),
    (hw.st),
    (hw.pt),
    (hw.bo),
    (okN_of rfl (by omega) (by decide)),
    (fun g hg => by rw [e44] at hg; exact okN_app (τ := τ) ha (by decide) (fun q => hw.gw g q) hg),
    (fun g hg => by rw [e44] at hg; exact okN_app (τ := τ) hb (by decide) (fun q => hw.gm g q) hg),
    (fun g hg => by rw [e44] at hg; exact okN_app (τ := τ) hc (by decide) (fun q => hw.gr g q) hg),
    (fun g hg => by rw [e44] at hg; exact okN_app (τ := τ) hd (by decide) (fun q => hw.gt g q) hg),
    (fun g hg => by rw [e44] at hg; exact okN_app (τ := τ) he (by decide) (fun q => hw.gp g q) hg),
    (fun g hg => by rw [e44] at hg; exact okN_app (τ := τ) hf (by decide) (fun q => hw.gk g q) hg),
    (hw.op),
    (hw.np),
    (hw.pw),
    (hw.pm),
    (hw.pb)⟩

