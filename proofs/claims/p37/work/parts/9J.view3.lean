/-! VIEW: what a person's slips read, spelled out -/
def CAg (c : Nat) (τ U : Mu) : Prop := (∀ k, k < 6 → un U k c = un τ k c) ∧ ∀ d, d < 720 → (un τ 2 c ≤ d → d ≤ un τ 3 c → un U 7 (720 * c + d) = un τ 7 (720 * c + d)) ∧ un U 8 (720 * c + d) = un τ 8 (720 * c + d)
def VPc (r : Nat) (τ U : Mu) : Prop := un τ 9 9 ≤ un U 9 9 ∧ (∀ c, c < un U 9 9 → (un U 0 c = r ↔ c < un τ 9 9 ∧ un τ 0 c = r)) ∧ ∀ c, c < un τ 9 9 → un τ 0 c = r → CAg c τ U
def VPl (r : Nat) (τ U : Mu) : Prop := un τ 17 17 ≤ un U 17 17 ∧ (∀ k, k < un U 17 17 → (un U 0 (un U 14 k) = r ↔ k < un τ 17 17 ∧ un τ 0 (un τ 14 k) = r)) ∧ (∀ k, k < un τ 17 17 → un τ 0 (un τ 14 k) = r → un U 14 k = un τ 14 k ∧ un U 15 k = un τ 15 k) ∧ un U 18 18 = un τ 18 18 ∧ un U 19 19 = un τ 19 19 ∧ un U 20 20 = un τ 20 20
def VPe (τ U : Mu) : Prop := un U 26 26 = un τ 26 26 ∧ (∀ e, e < 6 → un U 24 e = un τ 24 e ∧ un U 25 e = un τ 25 e ∧ un U 27 e = un τ 27 e) ∧ ∀ i, i < 60 → un U 22 i = un τ 22 i ∧ U.1 23 i = τ.1 23 i
def VPt (r : Nat) (τ U : Mu) : Prop := (∀ k, 31 ≤ k → k < 36 → U.1 k = τ.1 k) ∧ (∀ m q, m < 24 → q < 3 → U.1 30 (72 * r + 3 * m + q) = τ.1 30 (72 * r + 3 * m + q)) ∧ (∀ m, m < 24 → U.1 36 (24 * r + m) = τ.1 36 (24 * r + m)) ∧ (∀ m, m < 24 → U.1 37 (24 * r + m) = τ.1 37 (24 * r + m)) ∧ ∀ m, m < 24 → U.2 45 (24 * r + m) = τ.2 45 (24 * r + m)
def VPg (r : Nat) (τ U : Mu) : Prop := un τ 44 44 ≤ un U 44 44 ∧ (∀ g, g < un U 44 44 → (un U 38 g = r ↔ g < un τ 44 44 ∧ un τ 38 g = r)) ∧ ∀ g, g < un τ 44 44 → un τ 38 g = r → ∀ k, 39 ≤ k → k < 44 → un U k g = un τ k g
def VP (r : Nat) (τ U : Mu) : Prop := WF τ ∧ VPc r τ U ∧ VPl r τ U ∧ VPe τ U ∧ VPt r τ U ∧ VPg r τ U
theorem sum_x {f g : Nat → Nat} {n n' : Nat} (h : ∀ k, k < n → f k = g k) (hx : ∀ k, n ≤ k → k < n' → f k = 0) (hn : n ≤ n') : sumN f 0 n' = sumN g 0 n := by
  induction n' with
  | zero => obtain rfl : n = 0 := by omega
            rfl
  | succ m ih =>
    by_cases e : n = m + 1
    · subst e; exact sumN_congr fun i hi => by rw [Nat.zero_add]; exact h i hi
    · rw [sumN_1, ih (fun k a b => hx k a (by omega)) (by omega), hx m (by omega) (by omega), Nat.add_zero]
theorem any_x {f g : Nat → Bool} {n n' : Nat} (h : ∀ k, k < n → f k = g k) (hx : ∀ k, n ≤ k → k < n' → f k = false) (hn : n ≤ n') : anyN f n' = anyN g n := by
  rw [Bool.eq_iff_iff, anyN_iff, anyN_iff]
  constructor
  · rintro ⟨k, a, b⟩
    by_cases e : k < n
    · exact ⟨k, e, (h k e) ▸ b⟩
    · rw [hx k (by omega) a] at b; cases b
  · rintro ⟨k, a, b⟩
    exact ⟨k, by omega, (h k a).trans b⟩
theorem fst_cg {f g : Nat → Bool} : ∀ {n : Nat}, (∀ k, k < n → f k = g k) → fstN f n = fstN g n
  | 0, _ => rfl
  | n + 1, h => by
    show (match fstN f n with | some j => some j | none => if f n = true then some n else none) = (match fstN g n with | some j => some j | none => if g n = true then some n else none)
    rw [h n (by omega), fst_cg (fun k hk => h k (by omega))]
theorem fst_x {f g : Nat → Bool} {n n' : Nat} (h : ∀ k, k < n → f k = g k) (hx : ∀ k, n ≤ k → k < n' → f k = false) (hn : n ≤ n') : fstN f n' = fstN g n := by
  induction n' with
  | zero => obtain rfl : n = 0 := by omega
            rfl
  | succ m ih =>
    by_cases e : n = m + 1
    · subst e; exact fst_cg h
    · show (match fstN f m with | some j => some j | none => if f m = true then some m else none) = fstN g n
      rw [ih (fun k a b => hx k a (by omega)) (by omega), hx m (by omega) (by omega)]
      cases fstN g n <;> rfl
section CAgs
variable {τ U : Mu} {c : Nat}
theorem CAg.pay (v : CAg c τ U) (hw : WF τ) (h1 : c < un τ 9 9) {d : Nat} (hd : d < 720) : payD U c d = payD τ c d := by
  have a1 := (hw.cf c h1).2
  have a2 := (hw.ct c h1).2
  have a3 := hw.cft c h1
  unfold payD
  rw [v.1 2 (by decide), v.1 3 (by decide)]
  have q : ∀ x, x = (if un τ 3 c < d then un τ 3 c else if d < un τ 2 c then un τ 2 c else d) → x < 720 ∧ un τ 2 c ≤ x ∧ x ≤ un τ 3 c := fun x hx => by
    split at hx
    · omega
    · split at hx <;> omega
  have q2 := q _ rfl
  exact (v.2 _ q2.1).1 q2.2.1 q2.2.2
theorem CAg.ov (v : CAg c τ U) (hw : WF τ) (h1 : c < un τ 9 9) {w : Nat} : overP U c w = overP τ c w := by
  have e8 : ∀ i, i < ovE w → un U 8 (720 * c + (7 * w + i)) = un τ 8 (720 * c + (7 * w + i)) := fun i hi => (v.2 _ (by unfold ovE at hi; omega)).2
  have a : overN U c w = overN τ c w := by
    unfold overN ovD ovA
    rw [sumN_congr (g := fun d => un τ 8 (720 * c + d) - un τ 5 c) (fun i hi => by show un U 8 (720 * c + (7 * w + i)) - un U 5 c = _; rw [e8 i hi, v.1 5 (by decide)]), sumN_congr (f := fun d => un U 8 (720 * c + d)) (g := fun d => un τ 8 (720 * c + d)) (fun i hi => e8 i hi), v.1 5 (by decide)]
  have b : hourN U c (lastD w) = hourN τ c (lastD w) := by
    unfold hourN
    rw [v.pay hw h1 (show lastD w < 720 by unfold lastD; split <;> omega), v.1 4 (by decide), v.1 5 (by decide)]
  unfold overP
  rw [a, b]
theorem CAg.bD (v : CAg c τ U) (hw : WF τ) (h1 : c < un τ 9 9) {m : Nat} (hm : m < 24) : baseD U c m = baseD τ c m := by
  unfold baseD
  rw [v.1 4 (by decide), sumN_congr (g := dayN τ c) (fun i hi => by
    unfold dayN isOfN
    rw [v.pay hw h1 (show 30 * m + i < 720 by omega), (v.2 _ (show 30 * m + i < 720 by omega)).2, v.1 4 (by decide), v.1 2 (by decide), v.1 3 (by decide)])]
theorem CAg.bW (v : CAg c τ U) (hw : WF τ) (h1 : c < un τ 9 9) {m n : Nat} : baseW U c m n = baseW τ c m n := by
  unfold baseW
  exact sumN_congr fun i _ => by rw [v.ov hw h1]
theorem CAg.hC (v : CAg c τ U) {m : Nat} (hm : m < 24) : hrC U c m 30 = hrC τ c m 30 := by
  unfold hrC
  exact sumN_congr fun i hi => (v.2 _ (by omega)).2
/-- a contract's cache -/
theorem CAg.cw (v : CAg c τ U) (hw : WF τ) (h1 : c < un τ 9 9) {i : Nat → Nat → Int32} {j : Nat → Nat → Int64} {f : Nat → Nat} (g : CoW τ c i j f) : CoW U c i j f := fun m hm => by
  rw [v.bD hw h1 hm, v.bW hw h1, v.hC hm]
  exact g m hm
end CAgs
section VPs
variable {r : Nat} {τ U : Mu}
theorem VP.w (v : VP r τ U) : WF τ := v.1
theorem VP.t (v : VP r τ U) : VPt r τ U := v.2.2.2.2.1
theorem VP.g (v : VP r τ U) : VPg r τ U := v.2.2.2.2.2
theorem VP.l (v : VP r τ U) : VPl r τ U := v.2.2.1
theorem VP.e (v : VP r τ U) : VPe τ U := v.2.2.2.1
theorem VP.c (v : VP r τ U) : VPc r τ U := v.2.1
theorem VP.cy (v : VP r τ U) {c : Nat} (h1 : c < un τ 9 9) (h2 : un τ 0 c = r) : un U 0 c = r := (v.c.2.1 c (Nat.lt_of_lt_of_le h1 v.c.1)).mpr ⟨h1, h2⟩
theorem VP.cn (v : VP r τ U) {c : Nat} (h1 : c < un U 9 9) (h2 : ¬ (c < un τ 9 9 ∧ un τ 0 c = r)) : ¬ un U 0 c = r := fun z => h2 ((v.c.2.1 c h1).mp z)
theorem VP.k (v : VP r τ U) {c : Nat} (h1 : c < un τ 9 9) (h2 : un τ 0 c = r) {k : Nat} (hk : k < 6) : un U k c = un τ k c := (v.c.2.2 c h1 h2).1 k hk
theorem VP.wk (v : VP r τ U) {d : Nat} : worksB U r d = worksB τ r d := by
  refine any_x (fun c hc => ?_) (fun c h1 h2 => ?_) v.c.1
  · unfold workB
    by_cases e : un τ 0 c = r
    · rw [v.k hc e (show 0 < 6 by decide), v.k hc e (show 2 < 6 by decide), v.k hc e (show 3 < 6 by decide)]
    · rw [decide_eq_false (fun z => v.cn (Nat.lt_of_lt_of_le hc v.c.1) (fun q => e q.2) z.1), decide_eq_false (fun z => e z.1)]
  · exact decide_eq_false (fun z => v.cn h2 (fun q => by omega) z.1)
theorem VP.tkk (v : VP r τ U) {d : Nat} {s : Nat × Nat} : ∀ k, k ≤ un τ 17 17 → tkK U r d s k = tkK τ r d s k
  | 0, _ => rfl
  | k + 1, hk => by
    have ih := v.tkk (d := d) (s := s) k (by omega)
    by_cases e : un τ 0 (un τ 14 k) = r
    · have e1 := v.l.2.2.1 k (by omega) e
      have e2 := (v.l.2.1 k (Nat.lt_of_lt_of_le hk v.l.1)).mpr ⟨by omega, e⟩
      unfold tkK
      rw [ih, e1.2, e2, e]
    · have e2 : ¬ un U 0 (un U 14 k) = r := fun z => e ((v.l.2.1 k (Nat.lt_of_lt_of_le hk v.l.1)).mp z).2
      unfold tkK
      rw [if_neg (fun z => e2 z.2.1), if_neg (fun z => e z.2.1)]
      exact ih
theorem VP.tkx (v : VP r τ U) {d : Nat} {s : Nat × Nat} : ∀ j, un τ 17 17 + j ≤ un U 17 17 → tkK U r d s (un τ 17 17 + j) = tkK U r d s (un τ 17 17)
  | 0, _ => rfl
  | j + 1, hj => by
    show tkK U r d s ((un τ 17 17 + j) + 1) = _
    have e2 : ¬ un U 0 (un U 14 (un τ 17 17 + j)) = r := fun z => absurd ((v.l.2.1 (un τ 17 17 + j) hj).mp z).1 (by omega)
    rw [show tkK U r d s ((un τ 17 17 + j) + 1) = tkK U r d s (un τ 17 17 + j) from if_neg (fun z => e2 z.2.1)]
    exact v.tkx j (by omega)
theorem VP.tka (v : VP r τ U) {d : Nat} {s : Nat × Nat} : tkK U r d s (un U 17 17) = tkK τ r d s (un τ 17 17) := by
  have h := v.tkx (d := d) (s := s) (un U 17 17 - un τ 17 17) (by have := v.l.1; omega)
  rw [show un τ 17 17 + (un U 17 17 - un τ 17 17) = un U 17 17 by have := v.l.1; omega] at h
  exact h.trans (v.tkk _ (Nat.le_refl _))
theorem VP.tkd (v : VP r τ U) {d : Nat} {s : Nat × Nat} : tkD U r d s = tkD τ r d s := by
  unfold tkD tkH
  rw [v.wk, v.l.2.2.2.1, v.l.2.2.2.2.1, v.l.2.2.2.2.2]
theorem VP.tke (v : VP r τ U) : ∀ d, tk U r d = tk τ r d
  | 0 => rfl
  | d + 1 => by
    show tkK U r d (tkD U r d (tk U r d)) (un U 17 17) = tkK τ r d (tkD τ r d (tk τ r d)) (un τ 17 17)
    rw [v.tke d, v.tkd, v.tka]
theorem VP.lt (v : VP r τ U) {k : Nat} (h1 : k < un τ 17 17) (h2 : un τ 0 (un τ 14 k) = r) : ltN U k = ltN τ k := by
  have e1 := v.l.2.2.1 k h1 h2
  have e2 := (v.l.2.1 k (Nat.lt_of_lt_of_le h1 v.l.1)).mpr ⟨h1, h2⟩
  unfold ltN ltS
  rw [e2, h2, e1.2, v.tke, v.tkd, v.tkk k (by omega)]
theorem VP.pay (v : VP r τ U) {c d : Nat} (h1 : c < un τ 9 9) (h2 : un τ 0 c = r) (hd : d < 720) : payD U c d = payD τ c d := (v.c.2.2 c h1 h2).pay v.w h1 hd
theorem VP.lp (v : VP r τ U) {c m : Nat} (h1 : c < un τ 9 9) (h2 : un τ 0 c = r) : sumN (leaveP U (ltN U) c m) 0 (un U 17 17) = sumN (leaveP τ (ltN τ) c m) 0 (un τ 17 17) := by
  refine sum_x (fun k hk => ?_) (fun k a b => ?_) v.l.1
  · unfold leaveP
    by_cases e : un τ 0 (un τ 14 k) = r
    · have e1 := v.l.2.2.1 k hk e
      rw [e1.1, e1.2, v.lt hk e, v.k h1 h2 (show 4 < 6 by decide), v.k h1 h2 (show 5 < 6 by decide), v.pay h1 h2 (show un τ 15 k < 720 by have := (v.w.ld k hk).1.2; omega)]
    · rw [if_neg (fun z => e ((v.l.2.1 k (Nat.lt_of_lt_of_le hk v.l.1)).mp (by rw [z.1]; exact v.cy h1 h2)).2), if_neg (fun z => e (by rw [z.1]; exact h2))]
  · exact if_neg (fun z => absurd ((v.l.2.1 k b).mp (by rw [z.1]; exact v.cy h1 h2)).1 (by omega))
theorem VP.bD (v : VP r τ U) {c m : Nat} (h1 : c < un τ 9 9) (h2 : un τ 0 c = r) (hm : m < 24) : baseD U c m = baseD τ c m := (v.c.2.2 c h1 h2).bD v.w h1 hm
theorem VP.bW (v : VP r τ U) {c m n : Nat} (h1 : c < un τ 9 9) (h2 : un τ 0 c = r) : baseW U c m n = baseW τ c m n := (v.c.2.2 c h1 h2).bW v.w h1
theorem VP.hC (v : VP r τ U) {c m : Nat} (h1 : c < un τ 9 9) (h2 : un τ 0 c = r) (hm : m < 24) : hrC U c m 30 = hrC τ c m 30 := (v.c.2.2 c h1 h2).hC hm
theorem VP.ba (v : VP r τ U) {c m : Nat} (h1 : c < un τ 9 9) (h2 : un τ 0 c = r) (hm : m < 24) : baseN U (ltN U) c m = baseN τ (ltN τ) c m := by
  unfold baseN
  rw [v.bD h1 h2 hm, v.bW h1 h2, v.lp h1 h2]
theorem VP.sum (v : VP r τ U) {f g : Nat → Nat} (h : ∀ c, c < un τ 9 9 → un τ 0 c = r → f c = g c) : sumN (fun c => if un U 0 c = r then f c else 0) 0 (un U 9 9) = sumN (fun c => if un τ 0 c = r then g c else 0) 0 (un τ 9 9) := by
  refine sum_x (fun c hc => ?_) (fun c a b => if_neg (v.cn b (fun q => by omega))) v.c.1
  by_cases e : un τ 0 c = r
  · rw [if_pos e, if_pos (v.cy hc e)]; exact h c hc e
  · rw [if_neg e, if_neg (v.cn (Nat.lt_of_lt_of_le hc v.c.1) (fun q => e q.2))]
theorem VP.gb (v : VP r τ U) {m q : Nat} (hm : m < 24) : gbN U r m q (un U 9 9) = gbN τ r m q (un τ 9 9) := by
  refine sum_x (fun c hc => ?_) (fun c a b => if_neg (fun z => v.cn b (fun q => by omega) z.1)) v.c.1
  by_cases e : un τ 0 c = r
  · rw [v.k hc e (show 0 < 6 by decide), v.k hc e (show 1 < 6 by decide), v.ba hc e hm]
  · rw [if_neg (fun z => v.cn (Nat.lt_of_lt_of_le hc v.c.1) (fun q => e q.2) z.1), if_neg (fun z => e z.1)]
theorem VP.bs (v : VP r τ U) {m : Nat} (hm : m < 24) : bsN U r m (un U 9 9) = bsN τ r m (un τ 9 9) := v.sum fun c h1 h2 => v.ba h1 h2 hm
theorem VP.hr (v : VP r τ U) {m : Nat} (hm : m < 24) : hrN U r m (un U 9 9) = hrN τ r m (un τ 9 9) := v.sum fun c h1 h2 => v.hC h1 h2 hm
theorem VP.ho (v : VP r τ U) {m : Nat} : homeN U r m = homeN τ r m := by
  have e : fstN (homeB U r m) (un U 9 9) = fstN (homeB τ r m) (un τ 9 9) := by
    refine fst_x (fun c hc => ?_) (fun c a b => decide_eq_false (fun z => v.cn b (fun q => by omega) z.1)) v.c.1
    unfold homeB
    by_cases e : un τ 0 c = r
    · rw [v.k hc e (show 0 < 6 by decide), v.k hc e (show 2 < 6 by decide), v.k hc e (show 3 < 6 by decide)]
    · rw [decide_eq_false (fun z => v.cn (Nat.lt_of_lt_of_le hc v.c.1) (fun q => e q.2) z.1), decide_eq_false (fun z => e z.1)]
  unfold homeN
  rw [e]
  cases q : fstN (homeB τ r m) (un τ 9 9) with
  | none => rfl
  | some c =>
    have h := fst_lt q
    exact v.k h.1 (of_decide_eq_true h.2).1 (by decide)
theorem VP.fD (v : VP r τ U) {e : Nat} (he : e < 6) : ∀ k, k ≤ 10 → fmD U e k = fmD τ e k
  | 0, _ => rfl
  | k + 1, hk => by
    show (if un U 22 (10 * e + k) < 4 then fmD U e k + 1 else fmD U e k - 1) = (if un τ 22 (10 * e + k) < 4 then fmD τ e k + 1 else fmD τ e k - 1)
    rw [(v.e.2.2 _ (show 10 * e + k < 60 by omega)).1, v.fD he k (by omega)]
theorem VP.fP (v : VP r τ U) {cm : Nat → Int64} {b g : Int64} {e : Nat} (he : e < 6) : ∀ k, k ≤ 10 → fmP U cm b g e k = fmP τ cm b g e k
  | 0, _ => rfl
  | k + 1, hk => by
    have e1 := v.e.2.2 _ (show 10 * e + k < 60 by omega)
    unfold fmP singL
    rw [v.fP he k (by omega), v.fD he k (by omega), e1.1, un_cg e1.2, e1.2, v.e.1]
theorem VP.cmE (v : VP r τ U) {m : Nat} (hm : m < 24) : ∀ k, k ≤ un τ 26 26 → cmL U r m k = cmL τ r m k
  | 0, _ => rfl
  | k + 1, hk => by
    have h6 := (v.w.od k hk).1.2
    have hx := v.e.2.1 k (by have := v.w.ne.2; omega)
    have hy := v.e.2.1 (un τ 27 k) (by omega)
    unfold cmL formL
    rw [v.cmE hm k (by omega), v.bs hm, v.hr hm, hx.2.2, hy.1, hy.2.1, v.fP (show un τ 27 k < 6 by omega) _ (v.w.el _ (by omega)).2]
theorem VP.ge (v : VP r τ U) {m : Nat} (hm : m < 24) : ∀ k, k ≤ un τ 26 26 → gE U r m k = gE τ r m k
  | 0, _ => rfl
  | k + 1, hk => by
    show gE U r m k + cmL U r m (k + 1) (un U 27 k) = gE τ r m k + cmL τ r m (k + 1) (un τ 27 k)
    rw [v.ge hm k (by omega), v.cmE hm _ hk, (v.e.2.1 k (by have := v.w.ne.2; omega)).2.2]
theorem VP.el (v : VP r τ U) {m e : Nat} (hm : m < 24) : elL U r m e = elL τ r m e := by
  unfold elL
  rw [v.e.1, v.cmE hm _ (Nat.le_refl _)]
theorem VP.gr (v : VP r τ U) {m q : Nat} (hm : m < 24) (hq : q < 3) : grL U r m q = grL τ r m q := by
  unfold grL boL
  rw [v.t.2.1 m q hm hq, v.gb hm, v.ho, v.e.1, v.ge hm _ (Nat.le_refl _)]
theorem VP.l0 (v : VP r τ U) (a m : Nat) : lastO U 0 a m = lastO τ 0 a m := lst_cg fun k _ => by
  show decide (0 ≤ U.1 31 (a + k)) = decide (0 ≤ τ.1 31 (a + k))
  rw [v.t.1 31 (by decide) (by decide)]
theorem VP.l3 (v : VP r τ U) (a m : Nat) : lastO U 3 a m = lastO τ 3 a m := lst_cg fun k _ => by
  show decide (un U 33 (a + k) ≠ 0) = decide (un τ 33 (a + k) ≠ 0)
  rw [un_e (v.t.1 33 (by decide) (by decide))]
theorem VP.ce (v : VP r τ U) (q m : Nat) : ceilN U q m = ceilN τ q m := by
  unfold ceilN
  rw [v.l0, un_e (v.t.1 32 (by decide) (by decide))]
theorem VP.cr (v : VP r τ U) (q m : Nat) : crN U q m = crN τ q m := by
  unfold crN
  rw [v.l0, un_e (v.t.1 31 (by decide) (by decide))]
theorem VP.st (v : VP r τ U) {m : Nat} (hm : m < 24) : stN U r m = stN τ r m := by
  unfold stN
  rw [show lastO U 1 (24 * r) m = lastO τ 1 (24 * r) m from lst_cg fun k hk => by
    show decide (0 ≤ U.1 36 (24 * r + k)) = decide (0 ≤ τ.1 36 (24 * r + k))
    rw [v.t.2.2.1 k (by omega)]]
  cases e : lastO τ 1 (24 * r) m with
  | none => rfl
  | some k => exact un_cg (v.t.2.2.1 k (by have := (lst_lt e).1; omega))
theorem VP.pt (v : VP r τ U) {m : Nat} (hm : m < 24) : ptN U r m = ptN τ r m := by
  unfold ptN
  rw [show lastO U 2 (24 * r) m = lastO τ 2 (24 * r) m from lst_cg fun k hk => by
    show decide (0 ≤ U.1 37 (24 * r + k)) = decide (0 ≤ τ.1 37 (24 * r + k))
    rw [v.t.2.2.2.1 k (by omega)]]
  cases e : lastO τ 2 (24 * r) m with
  | none => rfl
  | some k => exact un_cg (v.t.2.2.2.1 k (by have := (lst_lt e).1; omega))
theorem VP.al (v : VP r τ U) {m : Nat} (hm : m < 24) : allL U r m = allL τ r m := by
  unfold allL
  rw [v.gr hm (by decide), v.gr hm (by decide), v.gr hm (by decide)]
theorem VP.pn (v : VP r τ U) {m : Nat} (hm : m < 24) : pnL U r m = pnL τ r m := by
  unfold pnL
  rw [v.al hm, v.pt hm]
theorem VP.mt (v : VP r τ U) {m : Nat} (hm : m < 24) : mtL U r m = mtL τ r m := by
  unfold mtL
  rw [v.al hm, v.pt hm]
theorem VP.gy (v : VP r τ U) {q y : Nat} (hq : q < 3) {j : Nat} (hj : y * 12 + j ≤ 24) : gY U r q y j = gY τ r q y j := sumL_cg fun i hi => v.gr (by omega) hq
theorem VP.ys (v : VP r τ U) {i : Nat} {x : Int64} : ∀ b, yrS U i x b = yrS τ i x b
  | 0 => rfl
  | b + 1 => by
    have e : yrLow U i b = yrLow τ i b := by
      cases b with
      | zero => rfl
      | succ b => exact congrFun (un_e (v.t.1 34 (by decide) (by decide))) _
    show yrS U i x b + yrT U i b x = yrS τ i x b + yrT τ i b x
    unfold yrT yrP
    rw [v.ys b, e, un_e (v.t.1 34 (by decide) (by decide)), un_e (v.t.1 35 (by decide) (by decide))]
theorem VP.ye (v : VP r τ U) (a m : Nat) (x : Int64) : yearL U a m x = yearL τ a m x := by
  unfold yearL
  rw [v.l3]
  cases lastO τ 3 a m with
  | none => rfl
  | some k =>
    show yrS U (a + k) x (un U 33 (a + k)) = yrS τ (a + k) x (un τ 33 (a + k))
    rw [v.ys, un_e (v.t.1 33 (by decide) (by decide))]
theorem VP.cm (v : VP r τ U) (q m : Nat) (a b : Int64) : ctM U q m a b = ctM τ q m a b := by
  unfold ctM
  rw [v.ce]
theorem VP.cty (v : VP r τ U) {q y : Nat} (hq : q < 3) : ∀ j, y * 12 + j ≤ 24 → ctY U r q y j = ctY τ r q y j
  | 0, _ => rfl
  | j + 1, hj => by
    show ctY U r q y j + ctM U q (y * 12 + j) (gY U r q y j + grL U r (y * 12 + j) q) (ctY U r q y j) = ctY τ r q y j + ctM τ q (y * 12 + j) (gY τ r q y j + grL τ r (y * 12 + j) q) (ctY τ r q y j)
    rw [v.cty hq j (by omega), v.cm, v.gy hq (by omega), v.gr (by omega) hq]
theorem VP.cl (v : VP r τ U) {m q : Nat} (hm : m < 24) (hq : q < 3) : ctL U r m q = ctL τ r m q := by
  unfold ctL
  rw [v.cm, v.gy hq (by omega), v.gr hm hq, v.cty hq _ (by omega)]
theorem VP.co (v : VP r τ U) {m q : Nat} (hm : m < 24) (hq : q < 3) : coL U r m q = coL τ r m q := by
  unfold coL
  rw [v.cl hm hq, v.cr]
theorem VP.tx (v : VP r τ U) {m q : Nat} (hm : m < 24) (hq : q < 3) : txL U r m q = txL τ r m q := by
  unfold txL
  rw [v.gr hm hq, v.co hm hq, v.ho, v.pn hm]
theorem VP.ty (v : VP r τ U) {q y : Nat} (hq : q < 3) {j : Nat} (hj : y * 12 + j ≤ 24) : txY U r q y j = txY τ r q y j := sumL_cg fun i hi => v.tx (by omega) hq
theorem VP.du (v : VP r τ U) {m q : Nat} (hm : m < 24) (hq : q < 3) : duL U r m q = duL τ r m q := by
  unfold duL dueM
  rw [v.ye, v.st hm, v.ty hq (by omega), v.tx hm hq]
theorem VP.ta (v : VP r τ U) {m q : Nat} (hm : m < 24) (hq : q < 3) : taL U r m q = taL τ r m q := by
  unfold taL
  rw [v.du hm hq, v.du (show m - 1 < 24 by omega) hq]
theorem VP.nk (v : VP r τ U) {m : Nat} (hm : m < 24) : ∀ q, q ≤ 3 → ntK U r m q = ntK τ r m q
  | 0, _ => by
    show allL U r m - pnL U r m = allL τ r m - pnL τ r m
    rw [v.al hm, v.pn hm]
  | q + 1, hq => by
    show ntK U r m q - (coL U r m q + taL U r m q) = ntK τ r m q - (coL τ r m q + taL τ r m q)
    rw [v.nk hm q (by omega), v.co hm (by omega), v.ta hm (by omega)]
theorem VP.nt (v : VP r τ U) {m : Nat} (hm : m < 24) : ntL U r m = ntL τ r m := v.nk hm 3 (by decide)
theorem VP.tg (v : VP r τ U) (nt a l : Int64) {g : Nat} (h1 : g < un τ 44 44) (h2 : un τ 38 g = r) : tkG U nt a l g = tkG τ nt a l g := by
  unfold tkG
  rw [v.g.2.2 g h1 h2 41 (by decide) (by decide), v.g.2.2 g h1 h2 42 (by decide) (by decide), v.g.2.2 g h1 h2 43 (by decide) (by decide)]
theorem VP.lk (v : VP r τ U) {m : Nat} {nt : Int64} {had had' : Nat → Int64} (hh : ∀ g, g < un τ 44 44 → un τ 38 g = r → had g = had' g) {k : Nat} {l0 : Int64} : ∀ g, g ≤ un τ 44 44 → lfK U r m nt had k l0 g = lfK τ r m nt had' k l0 g
  | 0, _ => rfl
  | g + 1, hg => by
    have ih := v.lk (m := m) (nt := nt) hh (k := k) (l0 := l0) g (by omega)
    unfold lfK
    by_cases e : un τ 38 g = r
    · rw [ih, v.tg _ _ _ hg e, hh g hg e, (v.g.2.1 g (Nat.lt_of_lt_of_le hg v.g.1)).mpr ⟨hg, e⟩, e, v.g.2.2 g hg e 39 (by decide) (by decide), v.g.2.2 g hg e 40 (by decide) (by decide)]
    · rw [if_neg (fun z => e ((v.g.2.1 g (Nat.lt_of_lt_of_le hg v.g.1)).mp z.2.1).2), if_neg (fun z => e z.2.1)]
      exact ih
theorem VP.lx (v : VP r τ U) {m : Nat} {nt : Int64} {had : Nat → Int64} {k : Nat} {l0 : Int64} : ∀ j, un τ 44 44 + j ≤ un U 44 44 → lfK U r m nt had k l0 (un τ 44 44 + j) = lfK U r m nt had k l0 (un τ 44 44)
  | 0, _ => rfl
  | j + 1, hj => by
    show lfK U r m nt had k l0 ((un τ 44 44 + j) + 1) = _
    rw [show lfK U r m nt had k l0 ((un τ 44 44 + j) + 1) = lfK U r m nt had k l0 (un τ 44 44 + j) from if_neg (fun z => absurd ((v.g.2.1 (un τ 44 44 + j) hj).mp z.2.1).1 (by omega))]
    exact v.lx j (by omega)
theorem VP.lr (v : VP r τ U) {m : Nat} {nt : Int64} {had had' : Nat → Int64} (hh : ∀ g, g < un τ 44 44 → un τ 38 g = r → had g = had' g) : ∀ k, lfR U r m nt had k = lfR τ r m nt had' k
  | 0 => rfl
  | k + 1 => by
    show lfK U r m nt had k (lfR U r m nt had k) (un U 44 44) = lfK τ r m nt had' k (lfR τ r m nt had' k) (un τ 44 44)
    have h := v.lx (m := m) (nt := nt) (had := had) (k := k) (l0 := lfR U r m nt had k) (un U 44 44 - un τ 44 44) (by have := v.g.1; omega)
    rw [show un τ 44 44 + (un U 44 44 - un τ 44 44) = un U 44 44 by have := v.g.1; omega] at h
    rw [h, v.lk hh _ (Nat.le_refl _), v.lr hh k]
theorem VP.hd (v : VP r τ U) : ∀ m, m ≤ 24 → ∀ g, g < un τ 44 44 → un τ 38 g = r → hadL U r m g = hadL τ r m g
  | 0, _, _, _, _ => rfl
  | m + 1, hm, g, h1, h2 => by
    have ih := v.hd m (by omega)
    show goneF U r m (ntL U r m) (hadL U r m) g = goneF τ r m (ntL τ r m) (hadL τ r m) g
    unfold goneF
    rw [v.nt (by omega), ih g h1 h2, v.tg _ _ _ h1 h2, v.g.2.2 g h1 h2 39 (by decide) (by decide), v.g.2.2 g h1 h2 40 (by decide) (by decide), v.lr ih, v.lk ih _ (by omega)]
theorem VP.lv (v : VP r τ U) {m : Nat} (hm : m < 24) : lvL U r m = lvL τ r m := by
  unfold lvL
  rw [v.nt hm, v.lr (v.hd m (by omega))]
theorem VP.ow (v : VP r τ U) : ∀ m, m ≤ 24 → owL U r m = owL τ r m
  | 0, _ => rfl
  | m + 1, hm => by
    show (owL U r m + U.2 45 (24 * r + m)) - bkV (lvL U r m) (owL U r m + U.2 45 (24 * r + m)) = (owL τ r m + τ.2 45 (24 * r + m)) - bkV (lvL τ r m) (owL τ r m + τ.2 45 (24 * r + m))
    rw [v.ow m (by omega), v.lv (by omega), v.t.2.2.2.2 m (by omega)]
theorem VP.py (v : VP r τ U) {m : Nat} (hm : m < 24) : pyL U r m = pyL τ r m := by
  unfold pyL bkL
  rw [v.lv hm, v.ow m (by omega), v.t.2.2.2.2 m hm]
theorem VP.cw (v : VP r τ U) {c : Nat} (h1 : c < un τ 9 9) (h2 : un τ 0 c = r) {i : Nat → Nat → Int32} {j : Nat → Nat → Int64} {f : Nat → Nat} (g : CoW τ c i j f) : CoW U c i j f := (v.c.2.2 c h1 h2).cw v.w h1 g
/-- a fresh book stays fresh where nothing that it reads has changed -/
theorem BF.vp {α : Nat → Nat} {M : Mem} (v : VP r τ U) (g : BF τ r α M) : BF U r α M := by
  obtain ⟨g1, g2, g3, g4⟩ := g
  refine ⟨fun m hm => ?_, fun x hx q k hk => ?_, fun c hc q => ?_, fun k hk q => ?_⟩
  · obtain ⟨⟨a1, a2, a3, a4⟩, b2, b3, b4, b5⟩ := g1 m hm
    refine ⟨⟨fun q hq => ?_, ?_, ?_, ?_⟩, ?_, fun e he => ?_, ?_, ?_⟩
    · rw [v.gr hm hq, v.co hm hq, v.ta hm hq, v.gy hq (by omega), v.cty hq _ (by omega), v.ty hq (by omega), v.tx hm hq, v.du hm hq]
      exact a1 q hq
    · rw [v.pn hm]; exact a2
    · rw [v.mt hm]; exact a3
    · rw [v.nt hm]; exact a4
    · rw [v.ho]; exact b2
    · rw [v.el hm]; exact b3 e he
    · rw [v.nt hm, v.lv hm]; exact b4
    · rw [v.py hm]; exact b5
  · have q2 := (v.g.2.1 x hx).mp q
    rw [v.hd (k + 1) (by omega) x q2.1 q2.2]
    exact g2 x q2.1 q2.2 k hk
  · have q2 := (v.c.2.1 c hc).mp q
    obtain ⟨d1, d2⟩ := g3 c q2.1 q2.2
    refine ⟨v.cw q2.1 q2.2 d1, fun x hx => ?_⟩
    rw [v.lp q2.1 q2.2]
    exact d2 x hx
  · have q2 := (v.l.2.1 k hk).mp q
    rw [v.lt q2.1 q2.2]
    exact g4 k q2.1 q2.2
end VPs
/-- a book in another memory -/
theorem BF.cg {τ : Mu} {r : Nat} {α : Nat → Nat} {M M1 : Mem} (eb : ∀ o, o < 42 → mI M1 (bO α r o) = mI M (bO α r o) ∧ mL M1 (bO α r o) = mL M (bO α r o)) (ea : ∀ g, g < un τ 44 44 → un τ 38 g = r → mL M1 (aO α g 1) = mL M (aO α g 1))
    (ec : ∀ c, c < un τ 9 9 → un τ 0 c = r → mI M1 (cO α c 8) = mI M (cO α c 8) ∧ mL M1 (cO α c 7) = mL M (cO α c 7) ∧ mL M1 (cO α c 9) = mL M (cO α c 9)) (el : ∀ k, k < un τ 17 17 → un τ 0 (un τ 14 k) = r → mI M1 (lO α k) 2 = mI M (lO α k) 2) (g : BF τ r α M) : BF τ r α M1 := by
  obtain ⟨g1, g2, g3, g4⟩ := g
  refine ⟨fun m hm => ?_, fun x hx q k hk => by rw [ea x hx q]; exact g2 x hx q k hk, fun c hc q => ⟨fun m hm => by rw [(ec c hc q).1, (ec c hc q).2.1]; exact (g3 c hc q).1 m hm, fun x hx => by rw [(ec c hc q).2.2]; exact (g3 c hc q).2 x hx⟩, fun k hk q => (el k hk q).trans (g4 k hk q)⟩
  obtain ⟨b1, b2, b3, b4, b5⟩ := g1 m hm
  exact ⟨b1.cg (fun o _ ho => by rw [(eb o (by omega)).2]), by rw [(eb 36 (by decide)).1]; exact b2, fun x hx => by rw [(eb (30 + x) (by omega)).2]; exact b3 x hx, by rw [(eb 40 (by decide)).2]; exact b4, by rw [(eb 41 (by decide)).2]; exact b5⟩
/-- other codes -/
theorem BF.al {τ : Mu} {r : Nat} {α β : Nat → Nat} {M : Mem} (hr : r < 6) (e : ∀ k, LV τ k → β k = α k) (g : BF τ r α M) : BF τ r β M := by
  obtain ⟨g1, g2, g3, g4⟩ := g
  have eb : ∀ o, o < 42 → bO β r o = bO α r o := fun o ho => e _ (lv_b hr ho)
  refine ⟨fun m hm => ?_, fun x hx q k hk => ?_, fun c hc q => ⟨fun m hm => ?_, fun x hx => ?_⟩, fun k hk q => ?_⟩
  · obtain ⟨⟨a1, a2, a3, a4⟩, b2, b3, b4, b5⟩ := g1 m hm
    refine ⟨⟨fun q hq => ?_, by rw [eb 37 (by decide)]; exact a2, by rw [eb 38 (by decide)]; exact a3, by rw [eb 39 (by decide)]; exact a4⟩, by rw [eb 36 (by decide)]; exact b2, fun x hx => by rw [eb (30 + x) (by omega)]; exact b3 x hx, by rw [eb 40 (by decide)]; exact b4, by rw [eb 41 (by decide)]; exact b5⟩
    rw [eb (2 + q) (by omega), eb (6 + q) (by omega), eb (10 + q) (by omega), eb (14 + q) (by omega), eb (18 + q) (by omega), eb (22 + q) (by omega), eb (26 + q) (by omega)]
    exact a1 q hq
  · rw [show aO β x 1 = aO α x 1 from e _ (lv_a hx (by decide))]; exact g2 x hx q k hk
  · rw [show cO β c 7 = cO α c 7 from e _ (lv_c hc (by decide)), show cO β c 8 = cO α c 8 from e _ (lv_c hc (by decide))]; exact (g3 c hc q).1 m hm
  · rw [show cO β c 9 = cO α c 9 from e _ (lv_c hc (by decide))]; exact (g3 c hc q).2 x hx
  · rw [show lO β k = lO α k from e _ (lv_l hk)]; exact g4 k hk q

