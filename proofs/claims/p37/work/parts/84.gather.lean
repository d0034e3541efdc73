/-! THE CLASS: gather -/
def GtA (f e : Nat → Nat) (a : Nat) : Prop := BkA f a ∨ a = e 21 ∨ a = e 22
/-- only this month of the book's cells has changed -/
def GT (f e : Nat → Nat) (m : Nat) (M M1 : Mem) : Prop := frm (GtA f e) M M1 ∧ (∀ o, o < 42 → ∀ k, k ≠ m → mL M1 (f o) k = mL M (f o) k) ∧ ∀ k, k ≠ m → mI M1 (f 36) k = mI M (f 36) k
theorem GT.wl {f e : Nat → Nat} {m : Nat} {M M1 : Mem} (hb : Blk tbBk (mK M1) (mN M1) (mR M1) f) (h : GT f e m M M1) {o : Nat} (h2 : 2 ≤ o) (h42 : o < 42) (v : Int64) : GT f e m M (wL M1 (f o) m v) := by
  refine ⟨h.1.wl _ _ (.inl ⟨o, h2, h42, rfl⟩), fun r hr k hk => ?_, h.2.2⟩
  by_cases q : r = o
  · subst q; exact (wL_k hk).trans (h.2.1 r hr k hk)
  · exact (congrFun (wL_a (bk_n hb hr h42 q)) k).trans (h.2.1 r hr k hk)
theorem GT.wi {f e : Nat → Nat} {m : Nat} {M M1 : Mem} (h : GT f e m M M1) (v : Int32) : GT f e m M (wI M1 (f 36) m v) := ⟨h.1.wi _ _ (.inl ⟨36, by decide, by decide, rfl⟩), h.2.1, fun k hk => (wI_k hk).trans (h.2.2 k hk)⟩
theorem GT.rk {f e : Nat → Nat} {m : Nat} {M M1 M2 : Mem} (h : GT f e m M M1) (g : frm (fun a => a = e 21 ∨ a = e 22) M1 M2) (hd : ∀ o, o < 42 → f o ≠ e 21 ∧ f o ≠ e 22) : GT f e m M M2 :=
  ⟨h.1.tr (g.mono (fun a z => .inr z)), fun o ho k hk => (congrFun (g.l (fun z => z.elim (hd o ho).1 (hd o ho).2)) k).trans (h.2.1 o ho k hk), fun k hk => (congrFun (g.i (fun z => z.elim (hd 36 (by decide)).1 (hd 36 (by decide)).2)) k).trans (h.2.2 k hk)⟩
def hmB (τ : Mu) (cn : Nat → Nat) (m i : Nat) : Bool := decide (un τ 2 (cn i) < 30 * m + 30 ∧ 30 * m ≤ un τ 3 (cn i))
def hmX (τ : Mu) (cn : Nat → Nat) (m i : Nat) : Int32 := match fstN (hmB τ cn m) i with | some j => nI (un τ 1 (cn j)) | none => -1
theorem hmX_t {τ : Mu} {cn : Nat → Nat} {m i : Nat} (h : hmX τ cn m i = -1) (hb : hmB τ cn m i = true) (h1 : ∀ j, j < i → un τ 1 (cn j) ≤ 2) : hmX τ cn m (i + 1) = nI (un τ 1 (cn i)) := by
  unfold hmX at h ⊢
  show (match (match fstN (hmB τ cn m) i with | some j => some j | none => if hmB τ cn m i = true then some i else none) with | some j => nI (un τ 1 (cn j)) | none => (-1 : Int32)) = _
  cases e : fstN (hmB τ cn m) i with
  | none => rw [hb]; rfl
  | some j =>
    rw [e] at h
    have h2 := h1 j (fst_lt e).1
    have h3 : (nI (un τ 1 (cn j))).toInt = (-1 : Int32).toInt := congrArg Int32.toInt h
    rw [nI_toInt (by omega)] at h3
    have : (-1 : Int32).toInt = -1 := by decide
    omega
theorem hmX_f {τ : Mu} {cn : Nat → Nat} {m i : Nat} (h : hmX τ cn m i ≠ -1 ∨ hmB τ cn m i = false) : hmX τ cn m (i + 1) = hmX τ cn m i := by
  unfold hmX at h ⊢
  show (match (match fstN (hmB τ cn m) i with | some j => some j | none => if hmB τ cn m i = true then some i else none) with | some j => nI (un τ 1 (cn j)) | none => (-1 : Int32)) = _
  cases e : fstN (hmB τ cn m) i with
  | none =>
    rw [e] at h
    rcases h with h | h
    · exact absurd rfl h
    · rw [h]; rfl
  | some j => rfl
theorem fst_no {f : Nat → Bool} : ∀ {n : Nat}, fstN f n = none → ∀ k, k < n → f k = false
  | 0, _, k, hk => absurd hk (Nat.not_lt_zero _)
  | n + 1, h, k, hk => by
    have h1 : (match fstN f n with | some j => some j | none => if f n = true then some n else none) = none := h
    cases e : fstN f n with
    | some j => rw [e] at h1; cases h1
    | none =>
      rw [e] at h1
      by_cases q : k = n
      · subst q
        cases r : f k with
        | false => rfl
        | true => rw [r] at h1; cases h1
      · exact fst_no e k (by omega)
theorem fst_mn {f : Nat → Bool} : ∀ {n j : Nat}, fstN f n = some j → ∀ k, k < j → f k = false
  | 0, _, h, _, _ => by cases h
  | n + 1, j, h, k, hk => by
    have h1 : (match fstN f n with | some j => some j | none => if f n = true then some n else none) = some j := h
    cases e : fstN f n with
    | some i => rw [e] at h1; cases h1; exact fst_mn e k hk
    | none =>
      rw [e] at h1
      by_cases q : f n = true
      · rw [if_pos q] at h1
        cases h1
        exact fst_no e k hk
      · rw [if_neg q] at h1; cases h1
/-- the home of a month, found along the person's own contracts -/
theorem hmX_end {τ : Mu} {p m nc : Nat} {cn : Nat → Nat} (h : EnN (fun c => un τ 0 c = p) (un τ 9 9) nc cn) (hw : WF τ) : (hmX τ cn m nc = -1 ∧ homeN τ p m = 0) ∨ (hmX τ cn m nc ≠ -1 ∧ hmX τ cn m nc = nI (homeN τ p m)) := by
  unfold hmX homeN
  cases e : fstN (hmB τ cn m) nc with
  | none =>
    refine .inl ⟨rfl, ?_⟩
    rw [fst_none (fun c hc => ?_)]
    cases q : homeB τ p m c with
    | false => rfl
    | true =>
      unfold homeB at q
      rw [decide_eq_true_iff] at q
      obtain ⟨i, hi, ei⟩ := h.2.2 c hc q.1
      have := fst_no e i hi
      unfold hmB at this
      rw [ei, decide_eq_true q.2] at this
      cases this
  | some j =>
    obtain ⟨h1, h2⟩ := fst_lt e
    have hj := h.1 j h1
    have h3 : fstN (homeB τ p m) (un τ 9 9) = some (cn j) := by
      refine fst_some ?_ (fun c hc => ?_) hj.1
      · unfold hmB at h2
        unfold homeB
        rw [decide_eq_true_iff] at h2 ⊢
        exact ⟨hj.2, h2⟩
      · cases q : homeB τ p m c with
        | false => rfl
        | true =>
          unfold homeB at q
          rw [decide_eq_true_iff] at q
          obtain ⟨i, hi, ei⟩ := h.2.2 c (by omega) q.1
          have hij : i < j := by
            apply Classical.byContradiction
            intro z
            by_cases w : i = j
            · subst w; omega
            · have := h.2.1 j i (by omega) hi; omega
          have := fst_mn e i hij
          unfold hmB at this
          rw [ei, decide_eq_true q.2] at this
          cases this
    rw [h3]
    refine .inr ⟨fun z => ?_, rfl⟩
    have h4 := (hw.cp (cn j) hj.1).2
    have h5 : (nI (un τ 1 (cn j))).toInt = (-1 : Int32).toInt := congrArg Int32.toInt z
    rw [nI_toInt (by omega)] at h5
    have : (-1 : Int32).toInt = -1 := by decide
    omega
def gbI (τ : Mu) (cn : Nat → Nat) (m i q : Nat) : Nat := sumN (fun j => if un τ 1 (cn j) = q then baseN τ (ltN τ) (cn j) m else 0) 0 i
theorem gbI_end {τ : Mu} {p m nc q : Nat} {cn : Nat → Nat} (h : EnN (fun c => un τ 0 c = p) (un τ 9 9) nc cn) : gbI τ cn m nc q = gbN τ p m q (un τ 9 9) := by
  unfold gbI gbN
  rw [← en_sum (P := fun c => un τ 0 c = p) (F := fun c => if un τ 1 c = q then baseN τ (ltN τ) c m else 0) h]
  refine sumN_congr fun i _ => ?_
  by_cases a : un τ 0 (0 + i) = p
  · by_cases b : un τ 1 (0 + i) = q
    · rw [if_pos a, if_pos b, if_pos ⟨a, b⟩]
    · rw [if_pos a, if_neg b, if_neg (fun z => b z.2)]
  · rw [if_neg a, if_neg (fun z => a z.1)]
theorem sumL_up {F : Nat → Int64} {x : Nat} : ∀ {n : Nat}, x < n → sumL F n = sumL (fun k => if k = x then 0 else F k) n + F x
  | 0, h => absurd h (Nat.not_lt_zero _)
  | n + 1, h => by
    show sumL F n + F n = sumL (fun k => if k = x then 0 else F k) n + (if n = x then 0 else F n) + F x
    by_cases e : n = x
    · subst e
      rw [if_pos rfl, Int64.add_zero, sumL_cg (f := fun k => if k = n then 0 else F k) (g := F) (fun i hi => if_neg (show ¬ i = n by omega))]
    · rw [if_neg e, sumL_up (n := n) (x := x) (by omega)]
      ac_rfl
theorem sumL_z {F : Nat → Int64} : ∀ {n : Nat}, (∀ k, k < n → F k = 0) → sumL F n = 0
  | 0, _ => rfl
  | n + 1, h => by
    show sumL F n + F n = 0
    rw [h n (by omega), sumL_z (fun k hk => h k (by omega)), Int64.add_zero]
theorem sumL_pm {g : Nat → Nat} {n : Nat} : ∀ {nl : Nat} {F : Nat → Int64}, (∀ i, i < nl → g i < n) → (∀ i j, i < j → j < nl → g i ≠ g j) → (∀ k, k < n → (∀ i, i < nl → g i ≠ k) → F k = 0) → sumL F n = sumL (fun i => F (g i)) nl
  | 0, F, _, _, h3 => sumL_z fun k hk => h3 k hk (fun i hi => absurd hi (Nat.not_lt_zero _))
  | nl + 1, F, h1, h2, h3 => by
    show _ = sumL (fun i => F (g i)) nl + F (g nl)
    rw [sumL_up (h1 nl (by omega)), sumL_pm (nl := nl) (F := fun k => if k = g nl then 0 else F k) (fun i hi => h1 i (by omega)) (fun i j a b => h2 i j a (by omega)) (fun k hk hn => ?_)]
    · rw [sumL_cg (g := fun i => F (g i)) (fun i hi => if_neg (h2 i nl hi (by omega)))]
    · show (if k = g nl then 0 else F k) = 0
      by_cases e : k = g nl
      · rw [if_pos e]
      · rw [if_neg e]
        refine h3 k hk (fun i hi z => ?_)
        by_cases q : i = nl
        · subst q; exact e z.symm
        · exact hn i (by omega) z
theorem cm_st {τ : Mu} {p m j : Nat} : ∀ {n : Nat}, (∀ i, j < i → i < j + 1 + n → un τ 27 i ≠ un τ 27 j) → cmL τ p m (j + 1 + n) (un τ 27 j) = cmL τ p m (j + 1) (un τ 27 j)
  | 0, _ => rfl
  | n + 1, h => by
    show vp_updL (cmL τ p m (j + 1 + n)) (un τ 27 (j + 1 + n)) _ (un τ 27 j) = _
    rw [pk_uLn (h (j + 1 + n) (by omega) (by omega)).symm]
    exact cm_st (fun i a b => h i a (by omega))
theorem gE_sum {τ : Mu} (hw : WF τ) {p m : Nat} : sumL (fun e => elL τ p m e) 6 = gE τ p m (un τ 26 26) := by
  have hne := hw.ne.2
  rw [sumL_pm (F := fun e => elL τ p m e) (g := un τ 27) (nl := un τ 26 26) (fun i hi => by have := (hw.od i hi).2; omega) (fun i j a b => ord_ne hw b i a) (fun k hk hn => cmL_z hn)]
  have key : ∀ n, n ≤ un τ 26 26 → sumL (fun i => elL τ p m (un τ 27 i)) n = gE τ p m n := by
    intro n
    induction n with
    | zero => intro _; rfl
    | succ n ih =>
      intro hn
      show sumL (fun i => elL τ p m (un τ 27 i)) n + elL τ p m (un τ 27 n) = gE τ p m n + cmL τ p m (n + 1) (un τ 27 n)
      rw [ih (by omega)]
      have h1 := cm_st (τ := τ) (p := p) (m := m) (j := n) (n := un τ 26 26 - (n + 1)) (fun i a b => (ord_ne hw (show i < un τ 26 26 by omega) n a).symm)
      rw [show n + 1 + (un τ 26 26 - (n + 1)) = un τ 26 26 by omega] at h1
      unfold elL
      rw [h1]
  exact key _ (Nat.le_refl _)
/-- the gross rows behind i contracts -/
def GR (τ : Mu) (p : Nat) (cn : Nat → Nat) (f : Nat → Nat) (m i : Nat) (M1 : Mem) : Prop := ∀ q, q < 3 → mL M1 (f (2 + q)) m = boL τ p m q + lN (gbI τ cn m i q)
theorem GR.step {τ : Mu} {p m i : Nat} {cn f : Nat → Nat} {M1 : Mem} (hb : Blk tbBk (mK M1) (mN M1) (mR M1) f) (h : GR τ p cn f m i M1) (hq : un τ 1 (cn i) ≤ 2) : GR τ p cn f m (i + 1) (wL M1 (f (2 + un τ 1 (cn i))) m (boL τ p m (un τ 1 (cn i)) + lN (gbI τ cn m i (un τ 1 (cn i))) + lN (baseN τ (ltN τ) (cn i) m))) := by
  intro q h3
  unfold gbI
  rw [sumN_1]
  by_cases e : un τ 1 (cn i) = q
  · subst e
    rw [wL_i, if_pos rfl, Int64.add_assoc, lN_add]
  · rw [if_neg e, Nat.add_zero]
    exact (congrFun (wL_a (bk_n hb (show 2 + q < 42 by omega) (show 2 + un τ 1 (cn i) < 42 by omega) (by omega))) m).trans (h q h3)
theorem GtA.e {f e : Nat → Nat} {K N : Nat → Nat} {R : Nat → Nat → Option Nat} (hb : Blk tbEl K N R e) (hfe : ∀ o, o < 42 → ∀ r, r < 23 → f o ≠ e r) {o : Nat} (ho : o < 21) : ¬ GtA f e (e o) := by
  rintro (⟨r, _, h2, z⟩ | z | z)
  · exact hfe r h2 o (by omega) z.symm
  · exact el_n hb (show o < 21 from ho) (by decide) z
  · exact el_n hb (show o < 22 by omega) (by decide) z
/-- the gross rows behind x elements -/
def GX (τ : Mu) (p : Nat) (f : Nat → Nat) (m x : Nat) (M1 : Mem) : Prop := (∀ q, q < 3 → mL M1 (f (2 + q)) m = boL τ p m q + lN (gbN τ p m q (un τ 9 9)) + (if q = homeN τ p m then sumL (fun e => elL τ p m e) x else 0)) ∧ ∀ y, y < x → mL M1 (f (30 + y)) m = elL τ p m y
theorem gx_0 {τ : Mu} {p m nc : Nat} {cn f e : Nat → Nat} {M1 M2 : Mem} {v : Int32} (hc : EnN (fun c => un τ 0 c = p) (un τ 9 9) nc cn) (h : GR τ p cn f m nc M1) (g : frm (fun a => a = e 21 ∨ a = e 22) (wI M1 (f 36) m v) M2) (hd : ∀ o, o < 42 → f o ≠ e 21 ∧ f o ≠ e 22) : GX τ p f m 0 M2 := by
  refine ⟨fun q hq => ?_, fun y hy => absurd hy (Nat.not_lt_zero _)⟩
  rw [g.l (fun z => z.elim (hd (2 + q) (by omega)).1 (hd (2 + q) (by omega)).2), show (if q = homeN τ p m then sumL (fun e => elL τ p m e) 0 else 0) = 0 by split <;> rfl, Int64.add_zero, ← gbI_end hc]
  exact h q hq
theorem GX.step {τ : Mu} {p m x : Nat} {f : Nat → Nat} {M1 : Mem} (hb : Blk tbBk (mK M1) (mN M1) (mR M1) f) (h : GX τ p f m x M1) (hx : x < 6) (hh : homeN τ p m ≤ 2) :
    GX τ p f m (x + 1) (wL (wL M1 (f (30 + x)) m (elL τ p m x)) (f (2 + homeN τ p m)) m (boL τ p m (homeN τ p m) + lN (gbN τ p m (homeN τ p m) (un τ 9 9)) + sumL (fun e => elL τ p m e) x + elL τ p m x)) := by
  refine ⟨fun q hq => ?_, fun y hy => ?_⟩
  · by_cases e : q = homeN τ p m
    · subst e
      rw [wL_i, if_pos rfl, Int64.add_assoc]
      rfl
    · rw [if_neg e]
      refine (congrFun (wL_a (bk_n hb (show 2 + q < 42 by omega) (show 2 + homeN τ p m < 42 by omega) (by omega))) m).trans ((congrFun (wL_a (bk_n hb (show 2 + q < 42 by omega) (show 30 + x < 42 by omega) (by omega))) m).trans ?_)
      rw [h.1 q hq, if_neg e]
  · refine (congrFun (wL_a (bk_n hb (show 30 + y < 42 by omega) (show 2 + homeN τ p m < 42 by omega) (by omega))) m).trans ?_
    by_cases e : y = x
    · subst e; exact wL_i
    · exact (congrFun (wL_a (bk_n hb (show 30 + y < 42 by omega) (show 30 + x < 42 by omega) (by omega))) m).trans (h.2 y (by omega))
set_option maxHeartbeats 1000000 in
set_option maxRecDepth 100000 in
theorem c_X0_gather (l : Launch) (hfl : l.flags = flags0) (G : gW) (M : Mem) (f : Nat → Nat) (hb : Blk tbBk (mK M) (mN M) (mR M) f) (h : Nat → Nat) (hhb : Blk tbPe (mK M) (mN M) (mR M) h) (e : Nat → Nat) (hbe : Blk tbEl (mK M) (mN M) (mR M) e) (τ : Mu) (hw : WF τ) (p : Nat) (nc : Nat) (cn : Nat → Nat) (fc : Nat → Nat → Nat) (hpc : PcL τ p G M h nc cn fc) (m : Nat) (hp : p < 6) (hm : m < 24) (hf : ElF τ (mI M) e) (hnm : mI M (h 0) 0 = nI p) (hbn : ∀ q, q < 3 → mI M (h (11 + q)) m = τ.1 30 (72 * p + 3 * m + q)) (hcw : ∀ i, i < nc → CoW τ (cn i) (mI M) (mL M) (fc i) ∧ ∀ x, x < 24 → mL M (fc i 9) x = lN (sumN (leaveP τ (ltN τ) (cn i) x) 0 (un τ 17 17))) (hda : ∀ a, GtA f e a → a ≠ h 0 ∧ a ≠ h 1 ∧ (∀ q, q < 3 → a ≠ h (11 + q)) ∧ ∀ i, i < nc → ∀ o, o < 10 → a ≠ fc i o) (hfe : ∀ o, o < 42 → ∀ r, r < 23 → f o ≠ e r) : CT l yX0_gather cX0_gather 13 none 5 0 0 132 G M [.ref (f 0), .int (nI m), .ref (h 0), .ref (e 0)] (fun v M' => v = none ∧ GT f e m M M' ∧ (∀ q, q < 3 → mL M' (f (2 + q)) m = grL τ p m q) ∧ mI M' (f 36) m = nI (homeN τ p m) ∧ ∀ x, x < 6 → mL M' (f (30 + x)) m = elL τ p m x) := by
  refine CT.of hfl rfl (Nat.le_of_ble_eq_true rfl) ?_
  intro pp ee ss mm ar bw mt cd C hgX hr hini
  have hbO := hb
  have hhbO := hhb
  have hbeO := hbe
  have hfe2 : ∀ o, o < 42 → f o ≠ e 21 ∧ f o ≠ e 22 := fun o ho => ⟨hfe o ho 21 (by decide), hfe o ho 22 (by decide)⟩
  have h9 := hw.nc.2
  have hncl := hpc.2.1.le
  have hhl := homeN_le hw p m
  have hhr := hrN_le (p := p) (m := m) hw hm (Nat.le_refl _)
  have hbs : sumN (fun i => baseN τ (ltN τ) (cn i) m) 0 nc = bsN τ p m (un τ 9 9) := (en_sum (P := fun c => un τ 0 c = p) (F := fun c => baseN τ (ltN τ) c m) hpc.2.1).symm
  have hhs : sumN (fun i => hrC τ (cn i) m 30) 0 nc = hrN τ p m (un τ 9 9) := (en_sum (P := fun c => un τ 0 c = p) (F := fun c => hrC τ c m 30) hpc.2.1).symm
  refine V.eLo (lo' := [(0, .ref (f 0)), (1, .int (nI m)), (2, .ref (h 0)), (3, .ref (e 0))]) rfl ?_
  refine r_iconst C (v := nI 0) dX0_gather_0 (by decide) ?_
  refine r_istore C (lo' := [(4, .int (nI 0)), (0, .ref (f 0)), (1, .int (nI m)), (2, .ref (h 0)), (3, .ref (e 0))]) dX0_gather_1 (by decide) rfl ?_
  have lp3 : ∀ (k3 : Nat) (M1 : Mem) (q : Nat) (hq : q ≤ 3) (hgt : GT f e m M M1) (hz : ∀ i, i < q → mL M1 (f (2 + i)) m = boL τ p m i), 4 - q < k3 → V pp l ee ({ frames := 5, cells := 0, slots := 0, locals := 132 } : Room) ss mm ar bw mt cd G (MQ bw (Ke G (fun v M' => v = none ∧ GT f e m M M' ∧ (∀ q, q < 3 → mL M' (f (2 + q)) m = grL τ p m q) ∧ mI M' (f 36) m = nI (homeN τ p m) ∧ ∀ x, x < 6 → mL M' (f (30 + x)) m = elL τ p m x)) ar ss 0 0 (gA G)) 13 M1 0 0 3 [(0, .ref (f 0)), (1, .int (nI m)), (2, .ref (h 0)), (3, .ref (e 0)), (4, .int (nI q))] [] := by
    intro k3
    induction k3 with
    | zero => intro M1 q hq hgt hz hz3; exact absurd hz3 (Nat.not_lt_zero _)
    | succ k3 ih3 =>
      intro M1 q hq hgt hz hz3
      have hb := hgt.1.blk hbO
      have hhb := hgt.1.blk hhbO
      have hbe := hgt.1.blk hbeO
      have hpc1 : LI G M1 5 (h 1) nc (fun i => fc i 0) := hpc.1.fr hgt.1 (fun z => (hda _ z).2.1 rfl)
      have hnm1 : mI M1 (h 0) 0 = nI p := (congrFun (hgt.1.i (fun z => (hda _ z).1 rfl)) 0).trans hnm
      refine r_iload C 4 dX0_gather_3 rfl ?_
      refine r_iconst C (v := nI 3) dX0_gather_5 (by decide) ?_
      refine r_icmp_geN C (t := 34) (by omega) (by omega) dX0_gather_6 (by decide) (fun c6 => ?_) (fun c6 => ?_)
      · skip
        have eq3 : q = 3 := by omega
        subst eq3
        refine r_iconst C (v := (-1)) dX0_gather_34 (by decide) ?_
        refine r_istore C (lo' := [(4, .int (-1)), (0, .ref (f 0)), (1, .int (nI m)), (2, .ref (h 0)), (3, .ref (e 0))]) dX0_gather_35 (by decide) rfl ?_
        refine r_lconst C (v := lN 0) dX0_gather_37 (by decide) ?_
        refine r_lstore C (lo' := [(5, .long (lN 0)), (4, .int (-1)), (0, .ref (f 0)), (1, .int (nI m)), (2, .ref (h 0)), (3, .ref (e 0))]) dX0_gather_38 (by decide) rfl ?_
        refine r_lconst C (v := lN 0) dX0_gather_40 (by decide) ?_
        refine r_lstore C (lo' := [(7, .long (lN 0)), (5, .long (lN 0)), (4, .int (-1)), (0, .ref (f 0)), (1, .int (nI m)), (2, .ref (h 0)), (3, .ref (e 0))]) dX0_gather_41 (by decide) rfl ?_
        refine r_iconst C (v := nI 0) dX0_gather_43 (by decide) ?_
        refine r_istore C (lo' := [(9, .int (nI 0)), (7, .long (lN 0)), (5, .long (lN 0)), (4, .int (-1)), (0, .ref (f 0)), (1, .int (nI m)), (2, .ref (h 0)), (3, .ref (e 0))]) dX0_gather_44 (by decide) rfl ?_
        have lp46 : ∀ (k46 : Nat) (M2 : Mem) (i : Nat) (hi : i ≤ nc) (hgt : GT f e m M M2) (hgr : GR τ p cn f m i M2), nc + 1 - i < k46 → V pp l ee ({ frames := 5, cells := 0, slots := 0, locals := 132 } : Room) ss mm ar bw mt cd G (MQ bw (Ke G (fun v M' => v = none ∧ GT f e m M M' ∧ (∀ q, q < 3 → mL M' (f (2 + q)) m = grL τ p m q) ∧ mI M' (f 36) m = nI (homeN τ p m) ∧ ∀ x, x < 6 → mL M' (f (30 + x)) m = elL τ p m x)) ar ss 0 0 (gA G)) 13 M2 0 0 46 [(0, .ref (f 0)), (1, .int (nI m)), (2, .ref (h 0)), (3, .ref (e 0)), (4, .int (hmX τ cn m i)), (5, .long (lN (sumN (fun i => baseN τ (ltN τ) (cn i) m) 0 i))), (7, .long (lN (sumN (fun i => hrC τ (cn i) m 30) 0 i))), (9, .int (nI i))] [] := by
          intro k46
          induction k46 with
          | zero => intro M2 i hi hgt hgr hz46; exact absurd hz46 (Nat.not_lt_zero _)
          | succ k46 ih46 =>
            intro M2 i hi hgt hgr hz46
            have hb := hgt.1.blk hbO
            have hhb := hgt.1.blk hhbO
            have hbe := hgt.1.blk hbeO
            have hpc1 : LI G M2 5 (h 1) nc (fun i => fc i 0) := hpc.1.fr hgt.1 (fun z => (hda _ z).2.1 rfl)
            have hnm1 : mI M2 (h 0) 0 = nI p := (congrFun (hgt.1.i (fun z => (hda _ z).1 rfl)) 0).trans hnm
            refine r_iload C 7 dX0_gather_46 rfl ?_
            refine r_aload_n C 2 dX0_gather_48 rfl rfl ?_
            refine r_getR C (b := (h 1)) fl_X0_67 rfl (hhb.k 0 11 rfl) (hhb.r 0 1 1 rfl) dX0_gather_49 ?_
            refine r_callV C hgX (ci := 2) ml_X0_71 im_Jx4a65c_size_8abf5 se_Jx4a65c_size_8abf5 rfl rfl (hhb.k 1 3 rfl) (c_Jx4a65c_size_8abf5 l hfl G M2 (h 1) nc (hpc1).1 (hpc1).2.1) rfl (Nat.le_of_ble_eq_true rfl) ⟨Nat.le_of_ble_eq_true rfl, Nat.le_of_ble_eq_true rfl⟩ ⟨Nat.le_of_ble_eq_true rfl, Nat.le_of_ble_eq_true rfl⟩ dX0_gather_52 rfl ?_
            rintro _ _ ⟨rfl, rfl⟩
            refine V.eSt (st' := [.int (nI nc), .int (nI i)]) rfl ?_
            refine r_icmp_geN C (t := 145) (by omega) (by omega) dX0_gather_55 (by decide) (fun c55 => ?_) (fun c55 => ?_)
            · skip
              have ei : nc = i := by omega
              subst ei
              refine r_aload_n C 0 dX0_gather_145 rfl rfl ?_
              refine r_getR C (b := (f 36)) fl_X0_41 rfl (hb.k 0 4 rfl) (hb.r 0 9 36 rfl) dX0_gather_146 ?_
              refine r_iload_n C 1 dX0_gather_149 rfl rfl ?_
              have jn162 : V pp l ee ({ frames := 5, cells := 0, slots := 0, locals := 132 } : Room) ss mm ar bw mt cd G (MQ bw (Ke G (fun v M' => v = none ∧ GT f e m M M' ∧ (∀ q, q < 3 → mL M' (f (2 + q)) m = grL τ p m q) ∧ mI M' (f 36) m = nI (homeN τ p m) ∧ ∀ x, x < 6 → mL M' (f (30 + x)) m = elL τ p m x)) ar ss 0 0 (gA G)) 13 M2 0 0 162 [(0, .ref (f 0)), (1, .int (nI m)), (2, .ref (h 0)), (3, .ref (e 0)), (4, .int (hmX τ cn m nc)), (5, .long (lN (sumN (fun nc => baseN τ (ltN τ) (cn nc) m) 0 nc))), (7, .long (lN (sumN (fun nc => hrC τ (cn nc) m 30) 0 nc))), (9, .int (nI nc))] [.int (nI (homeN τ p m)), .int (nI m), .ref (f 36)] := by
                skip
                have hgtA := hgt.wi (nI (homeN τ p m))
                refine r_iastoreN C (hb.k 36 20 rfl) (hb.n 36 24 rfl) (by omega) (by omega) dX0_gather_162 ?_
                refine r_aload_n C 3 dX0_gather_163 rfl rfl ?_
                refine r_aload_n C 2 dX0_gather_164 rfl rfl ?_
                refine r_getI C fl_X0_98 rfl (hhb.k 0 11 rfl) dX0_gather_165 ?_
                refine V.ei (y := nI p) ((congrFun (hgtA.1.i (fun z => (hda _ z).1 rfl)) 0).trans hnm) ?_
                refine r_lload C 5 dX0_gather_168 rfl ?_
                refine V.el (y := lN (bsN τ p m (un τ 9 9))) (congrArg lN hbs) ?_
                refine r_lload C 6 dX0_gather_170 rfl ?_
                refine V.el (y := lN (hrN τ p m (un τ 9 9))) (congrArg lN hhs) ?_
                refine r_ldc2 C (v := 60) kl_X0_101 dX0_gather_172 ?_
                refine V.el (y := lN 60) (by decide) ?_
                refine r_ldivN C (by omega) (by omega) (by omega) dX0_gather_175 ?_
                refine r_callV C hgX (ci := 6) ml_X0_103 im_X4_reckonAll se_X4_reckonAll rfl rfl (show mK (wI M2 (f 36) m (nI (homeN τ p m))) (e 0) = 6 + 1 from (hbe.k 0 7 rfl)) (c_X4_reckonAll l hfl G (wI M2 (f 36) m (nI (homeN τ p m))) e hbe τ hw (hf.fr hgtA.1 (fun o ho => GtA.e hbeO hfe ho)) p m (by omega)) rfl (Nat.le_of_ble_eq_true rfl) ⟨Nat.le_of_ble_eq_true rfl, Nat.le_of_ble_eq_true rfl⟩ ⟨Nat.le_of_ble_eq_true rfl, Nat.le_of_ble_eq_true rfl⟩ dX0_gather_176 rfl ?_
                rintro _ My1 ⟨rfl, hfm1, hel1⟩
                refine r_iconst C (v := nI 0) dX0_gather_179 (by decide) ?_
                refine r_istore C (lo' := [(9, .int (nI 0)), (0, .ref (f 0)), (1, .int (nI m)), (2, .ref (h 0)), (3, .ref (e 0)), (4, .int (hmX τ cn m nc)), (5, .long (lN (sumN (fun nc => baseN τ (ltN τ) (cn nc) m) 0 nc))), (7, .long (lN (sumN (fun nc => hrC τ (cn nc) m 30) 0 nc)))]) dX0_gather_180 (by decide) rfl ?_
                have lp182 : ∀ (k182 : Nat) (M5 : Mem) (x : Nat) (hx6 : x ≤ 6) (hgt : GT f e m M M5) (hgx : GX τ p f m x M5) (hho : mI M5 (f 36) m = nI (homeN τ p m)) (hev : ∀ y, y < 6 → mL M5 (e 21) y = elL τ p m y), 7 - x < k182 → V pp l ee ({ frames := 5, cells := 0, slots := 0, locals := 132 } : Room) ss mm ar bw mt cd G (MQ bw (Ke G (fun v M' => v = none ∧ GT f e m M M' ∧ (∀ q, q < 3 → mL M' (f (2 + q)) m = grL τ p m q) ∧ mI M' (f 36) m = nI (homeN τ p m) ∧ ∀ x, x < 6 → mL M' (f (30 + x)) m = elL τ p m x)) ar ss 0 0 (gA G)) 13 M5 0 0 182 [(0, .ref (f 0)), (1, .int (nI m)), (2, .ref (h 0)), (3, .ref (e 0)), (9, .int (nI x))] [] := by
                  intro k182
                  induction k182 with
                  | zero => intro M5 x hx6 hgt hgx hho hev hz182; exact absurd hz182 (Nat.not_lt_zero _)
                  | succ k182 ih182 =>
                    intro M5 x hx6 hgt hgx hho hev hz182
                    have hb := hgt.1.blk hbO
                    have hhb := hgt.1.blk hhbO
                    have hbe := hgt.1.blk hbeO
                    have hpc1 : LI G M5 5 (h 1) nc (fun i => fc i 0) := hpc.1.fr hgt.1 (fun z => (hda _ z).2.1 rfl)
                    have hnm1 : mI M5 (h 0) 0 = nI p := (congrFun (hgt.1.i (fun z => (hda _ z).1 rfl)) 0).trans hnm
                    refine r_iload C 4 dX0_gather_182 rfl ?_
                    refine r_bipush C (v := nI 6) dX0_gather_184 (by decide) ?_
                    refine r_icmp_geN C (t := 234) (by omega) (by omega) dX0_gather_186 (by decide) (fun c186 => ?_) (fun c186 => ?_)
                    · skip
                      have ex : x = 6 := by omega
                      subst ex
                      exact r_vret C hr (⟨rfl, hgt, fun q hq => (hgx.1 q hq).trans (by unfold grL; rw [gE_sum hw]), hho, hgx.2⟩) (by first | exact Nat.zero_le _ | decide) (by first | exact Nat.zero_le _ | decide) dX0_gather_234
                    · skip
                      refine r_aload_n C 0 dX0_gather_189 rfl rfl ?_
                      refine r_getR C (b := (f 29)) fl_X0_38 rfl (hb.k 0 4 rfl) (hb.r 0 8 29 rfl) dX0_gather_190 ?_
                      refine r_iload C 4 dX0_gather_193 rfl ?_
                      refine r_aaloadN C (b := (f (30 + x))) 5 (by decide) (hb.k 29 28 rfl) (hb.n 29 6 rfl) (by omega) (by omega) (hb.ro 29 30 6 1 rfl x (by omega)) dX0_gather_195 ?_
                      refine r_iload_n C 1 dX0_gather_196 rfl rfl ?_
                      refine r_aload_n C 3 dX0_gather_197 rfl rfl ?_
                      refine r_getR C (b := (e 21)) fl_X0_109 rfl (hbe.k 0 7 rfl) (hbe.r 0 8 21 rfl) dX0_gather_198 ?_
                      refine r_iload C 4 dX0_gather_201 rfl ?_
                      refine r_laloadN C (hbe.k 21 21 rfl) (hbe.n 21 6 rfl) (by omega) (by omega) dX0_gather_203 ?_
                      refine V.el (y := elL τ p m x) (hev x (by omega)) ?_
                      refine r_lastoreN C (hb.ko 30 21 6 rfl x (by omega)) (hb.no 30 24 6 rfl x (by omega)) (by omega) (by omega) dX0_gather_204 ?_
                      refine r_aload_n C 0 dX0_gather_205 rfl rfl ?_
                      refine r_getR C (b := (f 1)) fl_X0_17 rfl (hb.k 0 4 rfl) (hb.r 0 1 1 rfl) dX0_gather_206 ?_
                      refine r_aload_n C 0 dX0_gather_209 rfl rfl ?_
                      refine r_getR C (b := (f 36)) fl_X0_41 rfl (hb.k 0 4 rfl) (hb.r 0 9 36 rfl) dX0_gather_210 ?_
                      refine r_iload_n C 1 dX0_gather_213 rfl rfl ?_
                      refine r_ialoadN C (hb.k 36 20 rfl) (hb.n 36 24 rfl) (by omega) (by omega) dX0_gather_214 ?_
                      refine V.ei (y := nI (homeN τ p m)) (hho) ?_
                      refine r_aaloadN C (b := (f (2 + (homeN τ p m)))) 5 (by decide) (hb.k 1 28 rfl) (hb.n 1 3 rfl) (by omega) (by omega) (hb.ro 1 2 3 1 rfl (homeN τ p m) (by omega)) dX0_gather_215 ?_
                      refine r_iload_n C 1 dX0_gather_216 rfl rfl ?_
                      refine r_dup2 C dX0_gather_217 rfl rfl ?_
                      refine r_laloadN C (hb.ko 2 21 3 rfl (homeN τ p m) (by omega)) (hb.no 2 24 3 rfl (homeN τ p m) (by omega)) (by omega) (by omega) dX0_gather_218 ?_
                      refine V.el (y := boL τ p m (homeN τ p m) + lN (gbN τ p m (homeN τ p m) (un τ 9 9)) + sumL (fun e => elL τ p m e) x) ((congrFun (wL_a (bk_n hb (show 2 + homeN τ p m < 42 by omega) (show 30 + x < 42 by omega) (by omega))) m).trans ((hgx.1 _ (by omega)).trans (by rw [if_pos rfl]))) ?_
                      refine r_aload_n C 3 dX0_gather_219 rfl rfl ?_
                      refine r_getR C (b := (e 21)) fl_X0_109 rfl (hbe.k 0 7 rfl) (hbe.r 0 8 21 rfl) dX0_gather_220 ?_
                      refine r_iload C 4 dX0_gather_223 rfl ?_
                      refine r_laloadN C (hbe.k 21 21 rfl) (hbe.n 21 6 rfl) (by omega) (by omega) dX0_gather_225 ?_
                      refine V.el (y := elL τ p m x) ((congrFun (wL_a (hfe (30 + x) (by omega) 21 (by decide)).symm) x).trans (hev x (by omega))) ?_
                      refine r_ladd C dX0_gather_226 ?_
                      refine r_lastoreN C (hb.ko 2 21 3 rfl (homeN τ p m) (by omega)) (hb.no 2 24 3 rfl (homeN τ p m) (by omega)) (by omega) (by omega) dX0_gather_227 ?_
                      refine r_iinc C (v := nI (x + 1)) (lo' := [(9, .int (nI (x + 1))), (0, .ref (f 0)), (1, .int (nI m)), (2, .ref (h 0)), (3, .ref (e 0))]) 4 dX0_gather_228 rfl (nI_addI x 1) (by decide) rfl ?_
                      refine r_goto C (t := 182) dX0_gather_231 (by decide) ?_
                      refine V.sub [1, 2, 3, 4, 0] (lo' := [(0, .ref (f 0)), (1, .int (nI m)), (2, .ref (h 0)), (3, .ref (e 0)), (9, .int (nI (x + 1)))]) rfl ?_
                      exact ih182 (wL (wL M5 (f (30 + x)) m (elL τ p m x)) (f (2 + (homeN τ p m))) m ((boL τ p m (homeN τ p m) + lN (gbN τ p m (homeN τ p m) (un τ 9 9)) + sumL (fun e => elL τ p m e) x) + (elL τ p m x))) (x + 1) (by omega) (GT.wl (M1 := wL M5 (f (30 + x)) m (elL τ p m x)) hb (o := 2 + homeN τ p m) (hgt.wl hb (o := 30 + x) (by omega) (by omega) _) (by omega) (by omega) _) (hgx.step hb (by omega) hhl) ((congrFun (show mI (wL (wL M5 (f (30 + x)) m (elL τ p m x)) (f (2 + (homeN τ p m))) m ((boL τ p m (homeN τ p m) + lN (gbN τ p m (homeN τ p m) (un τ 9 9)) + sumL (fun e => elL τ p m e) x) + (elL τ p m x))) (f 36) = mI M5 (f 36) from rfl) m).trans hho) (fun y hy => (congrFun (wL_a (hfe (2 + homeN τ p m) (by omega) 21 (by decide)).symm) y).trans ((congrFun (wL_a (hfe (30 + x) (by omega) 21 (by decide)).symm) y).trans (hev y hy))) (by omega)
                refine V.sub [1, 2, 3, 4, 0] (lo' := [(0, .ref (f 0)), (1, .int (nI m)), (2, .ref (h 0)), (3, .ref (e 0)), (9, .int (nI 0))]) rfl ?_
                exact lp182 _ My1 0 (Nat.zero_le _) (hgtA.rk hfm1 hfe2) (gx_0 hpc.2.1 hgr hfm1 hfe2) ((congrFun (hfm1.i (fun z => z.elim (hfe2 36 (by decide)).1 (hfe2 36 (by decide)).2)) m).trans wI_i) hel1 (Nat.lt_succ_self _)
              have hme := hmX_end (m := m) hpc.2.1 hw
              refine r_iload C 4 dX0_gather_150 rfl ?_
              refine r_iconst C (v := (-1)) dX0_gather_152 (by decide) ?_
              refine r_icmp_ne C (t := 160) dX0_gather_153 (by decide) (fun c153 => ?_) (fun c153 => ?_)
              · skip
                refine r_iload C 4 dX0_gather_160 rfl ?_
                refine V.ei (y := nI (homeN τ p m)) (by rcases hme with ⟨a, b⟩ | ⟨a, b⟩; exact absurd a c153; exact b) ?_
                exact jn162
              · skip
                refine r_iconst C (v := nI 0) dX0_gather_156 (by decide) ?_
                refine r_goto C (t := 162) dX0_gather_157 (by decide) ?_
                refine V.ei (y := nI (homeN τ p m)) (by rcases hme with ⟨a, b⟩ | ⟨a, b⟩; rw [b]; exact absurd c153 a) ?_
                exact jn162
            · skip
              have hgt0 := hgt
              have hbi := hgt.1.blk (hpc.2.2 i (by omega)).1
              have hdi : ∀ o, o < 10 → ¬ GtA f e (fc i o) := fun o ho z => (hda _ z).2.2.2 i (by omega) o ho rfl
              have hfi := (hpc.2.2 i (by omega)).2.fr' hgt.1 (hdi 0 (by omega)) (hdi 2 (by omega)) (hdi 4 (by omega))
              have hci := (hpc.2.1.1 i (by omega)).1
              have hpl_ := (hw.cp _ hci).2
              have hwi := (hcw i (by omega)).1.fr hgt.1 (hdi 7 (by omega)) (hdi 8 (by omega))
              have hvi := (congrFun (hgt.1.l (hdi 9 (by omega))) m).trans ((hcw i (by omega)).2 m hm)
              have hhc := hrC_le (c := cn i) (m := m) (n := 30) hw (by omega) (by omega)
              refine r_aload_n C 2 dX0_gather_58 rfl rfl ?_
              refine r_getR C (b := (h 1)) fl_X0_67 rfl (hhb.k 0 11 rfl) (hhb.r 0 1 1 rfl) dX0_gather_59 ?_
              refine r_iload C 7 dX0_gather_62 rfl ?_
              obtain ⟨d_, hd_, hkd_, hsn_, hn_, hri_⟩ := (hpc1).get (i := i) (by omega)
              refine r_callV C hgX (ci := 2) ml_X0_77 im_Jx4a65c_get_915e3 se_Jx4a65c_get_915e3 rfl rfl (hhb.k 1 3 rfl) (c_Jx4a65c_get_915e3 l hfl G M2 (h 1) d_ _ i (fc i 0) nc (hpc1).1 hd_ (hpc1).2.1 hkd_ rfl hn_ hsn_ (by omega) hri_) rfl (Nat.le_of_ble_eq_true rfl) ⟨Nat.le_of_ble_eq_true rfl, Nat.le_of_ble_eq_true rfl⟩ ⟨Nat.le_of_ble_eq_true rfl, Nat.le_of_ble_eq_true rfl⟩ dX0_gather_64 rfl ?_
              rintro _ _ ⟨rfl, rfl⟩
              refine V.eSt (st' := [.ref (fc i 0)]) rfl ?_
              refine r_cast C (ci := 5) rfl cl_X0_81 ((hbi.k 0 6 rfl)) dX0_gather_67 ?_
              refine r_astore C (lo' := [(10, .ref (fc i 0)), (0, .ref (f 0)), (1, .int (nI m)), (2, .ref (h 0)), (3, .ref (e 0)), (4, .int (hmX τ cn m i)), (5, .long (lN (sumN (fun i => baseN τ (ltN τ) (cn i) m) 0 i))), (7, .long (lN (sumN (fun i => hrC τ (cn i) m 30) 0 i))), (9, .int (nI i))]) dX0_gather_70 (by decide) rfl ?_
              refine r_aload C 0 dX0_gather_72 rfl ?_
              refine r_iload_n C 2 dX0_gather_74 rfl rfl ?_
              refine r_callV C hgX (ci := 5) ml_X0_83 im_X3_baseIn se_X3_baseIn rfl rfl (hbi.k 0 6 rfl) (c_X3_baseIn l hfl G M2 (fc i) hbi m (by omega)) rfl (Nat.le_of_ble_eq_true rfl) ⟨Nat.le_of_ble_eq_true rfl, Nat.le_of_ble_eq_true rfl⟩ ⟨Nat.le_of_ble_eq_true rfl, Nat.le_of_ble_eq_true rfl⟩ dX0_gather_75 rfl ?_
              rintro _ _ ⟨rfl, rfl⟩
              refine V.eSt (st' := [.long (mL M2 (fc i 7) m + mL M2 (fc i 9) m)]) rfl ?_
              refine V.el (y := lN (baseN τ (ltN τ) (cn i) m)) (by rw [(hwi m hm).1, hvi, lN_add]; rfl) ?_
              refine r_lstore C (lo' := [(11, .long (lN (baseN τ (ltN τ) (cn i) m))), (10, .ref (fc i 0)), (0, .ref (f 0)), (1, .int (nI m)), (2, .ref (h 0)), (3, .ref (e 0)), (4, .int (hmX τ cn m i)), (5, .long (lN (sumN (fun i => baseN τ (ltN τ) (cn i) m) 0 i))), (7, .long (lN (sumN (fun i => hrC τ (cn i) m 30) 0 i))), (9, .int (nI i))]) dX0_gather_78 (by decide) rfl ?_
              refine r_aload_n C 2 dX0_gather_80 rfl rfl ?_
              refine r_getR C (b := (f 1)) fl_X0_17 rfl (hb.k 0 4 rfl) (hb.r 0 1 1 rfl) dX0_gather_81 ?_
              refine r_aload C 1 dX0_gather_84 rfl ?_
              refine r_getI C fl_X0_87 rfl (hbi.k 0 6 rfl) dX0_gather_86 ?_
              refine V.ei (y := nI (un τ 1 (cn i))) (hfi.2.1) ?_
              refine r_aaloadN C (b := (f (2 + (un τ 1 (cn i))))) 5 (by decide) (hb.k 1 28 rfl) (hb.n 1 3 rfl) (by omega) (by omega) (hb.ro 1 2 3 1 rfl (un τ 1 (cn i)) (by omega)) dX0_gather_89 ?_
              refine r_iload_n C 3 dX0_gather_90 rfl rfl ?_
              refine r_dup2 C dX0_gather_91 rfl rfl ?_
              refine r_laloadN C (hb.ko 2 21 3 rfl (un τ 1 (cn i)) (by omega)) (hb.no 2 24 3 rfl (un τ 1 (cn i)) (by omega)) (by omega) (by omega) dX0_gather_92 ?_
              refine V.el (y := boL τ p m (un τ 1 (cn i)) + lN (gbI τ cn m i (un τ 1 (cn i)))) (hgr _ (by omega)) ?_
              refine r_lload C 0 dX0_gather_93 rfl ?_
              refine r_ladd C dX0_gather_95 ?_
              have hgt2 := hgt.wl hb (o := 2 + un τ 1 (cn i)) (by omega) (by omega) (boL τ p m (un τ 1 (cn i)) + lN (gbI τ cn m i (un τ 1 (cn i))) + lN (baseN τ (ltN τ) (cn i) m))
              have hgr2 := hgr.step hb hpl_
              have hbW := hb
              refine r_lastoreN C (hb.ko 2 21 3 rfl (un τ 1 (cn i)) (by omega)) (hb.no 2 24 3 rfl (un τ 1 (cn i)) (by omega)) (by omega) (by omega) dX0_gather_96 ?_
              refine r_lload C 7 dX0_gather_97 rfl ?_
              refine r_lload C 0 dX0_gather_99 rfl ?_
              refine r_laddN C dX0_gather_101 ?_
              refine r_lstore C (lo' := [(5, .long (lN (sumN (fun i => baseN τ (ltN τ) (cn i) m) 0 i + (baseN τ (ltN τ) (cn i) m)))), (11, .long (lN (baseN τ (ltN τ) (cn i) m))), (10, .ref (fc i 0)), (0, .ref (f 0)), (1, .int (nI m)), (2, .ref (h 0)), (3, .ref (e 0)), (4, .int (hmX τ cn m i)), (7, .long (lN (sumN (fun i => hrC τ (cn i) m 30) 0 i))), (9, .int (nI i))]) dX0_gather_102 (by decide) rfl ?_
              refine r_lload C 8 dX0_gather_104 rfl ?_
              refine r_aload C 2 dX0_gather_106 rfl ?_
              refine r_getR C (b := (fc i 8)) fl_X0_91 rfl (hbi.k 0 6 rfl) (hbi.r 0 13 8 rfl) dX0_gather_108 ?_
              refine r_iload_n C 4 dX0_gather_111 rfl rfl ?_
              refine r_ialoadN C (hbi.k 8 20 rfl) (hbi.n 8 24 rfl) (by omega) (by omega) dX0_gather_112 ?_
              refine V.ei (y := nI (hrC τ (cn i) m 30)) ((hwi m hm).2) ?_
              refine r_i2lN C (by omega) dX0_gather_113 ?_
              refine r_laddN C dX0_gather_114 ?_
              refine r_lstore C (lo' := [(7, .long (lN (sumN (fun i => hrC τ (cn i) m 30) 0 i + (hrC τ (cn i) m 30)))), (5, .long (lN (sumN (fun i => baseN τ (ltN τ) (cn i) m) 0 i + (baseN τ (ltN τ) (cn i) m)))), (11, .long (lN (baseN τ (ltN τ) (cn i) m))), (10, .ref (fc i 0)), (0, .ref (f 0)), (1, .int (nI m)), (2, .ref (h 0)), (3, .ref (e 0)), (4, .int (hmX τ cn m i)), (9, .int (nI i))]) dX0_gather_115 (by decide) rfl ?_
              refine r_iload C 8 dX0_gather_117 rfl ?_
              refine r_iconst C (v := (-1)) dX0_gather_119 (by decide) ?_
              refine r_icmp_ne C (t := 139) dX0_gather_120 (by decide) (fun c120 => ?_) (fun c120 => ?_)
              · skip
                refine r_iinc C (v := nI (i + 1)) (lo' := [(9, .int (nI (i + 1))), (7, .long (lN (sumN (fun i => hrC τ (cn i) m 30) 0 i + (hrC τ (cn i) m 30)))), (5, .long (lN (sumN (fun i => baseN τ (ltN τ) (cn i) m) 0 i + (baseN τ (ltN τ) (cn i) m)))), (11, .long (lN (baseN τ (ltN τ) (cn i) m))), (10, .ref (fc i 0)), (0, .ref (f 0)), (1, .int (nI m)), (2, .ref (h 0)), (3, .ref (e 0)), (4, .int (hmX τ cn m i))]) 9 dX0_gather_139 rfl (nI_addI i 1) (by decide) rfl ?_
                refine r_goto C (t := 46) dX0_gather_142 (by decide) ?_
                have jb4 : (hmX τ cn m i) = (hmX τ cn m (i + 1)) := by exact (hmX_f (.inl c120)).symm
                refine V.eLo (lo' := [(9, .int (nI (i + 1))), (7, .long (lN (sumN (fun i => hrC τ (cn i) m 30) 0 i + (hrC τ (cn i) m 30)))), (5, .long (lN (sumN (fun i => baseN τ (ltN τ) (cn i) m) 0 i + (baseN τ (ltN τ) (cn i) m)))), (11, .long (lN (baseN τ (ltN τ) (cn i) m))), (10, .ref (fc i 0)), (0, .ref (f 0)), (1, .int (nI m)), (2, .ref (h 0)), (3, .ref (e 0)), (4, .int (hmX τ cn m (i + 1)))]) (congrArg (fun z_ => ([(9, .int (nI (i + 1))), (7, .long (lN (sumN (fun i => hrC τ (cn i) m 30) 0 i + (hrC τ (cn i) m 30)))), (5, .long (lN (sumN (fun i => baseN τ (ltN τ) (cn i) m) 0 i + (baseN τ (ltN τ) (cn i) m)))), (11, .long (lN (baseN τ (ltN τ) (cn i) m))), (10, .ref (fc i 0)), (0, .ref (f 0)), (1, .int (nI m)), (2, .ref (h 0)), (3, .ref (e 0)), (4, .int z_)] : List (Nat × Value))) jb4) ?_
                have jb5 : (sumN (fun i => baseN τ (ltN τ) (cn i) m) 0 i + (baseN τ (ltN τ) (cn i) m)) = (sumN (fun i => baseN τ (ltN τ) (cn i) m) 0 (i + 1)) := by exact (sumN_1 (fun i => baseN τ (ltN τ) (cn i) m) i).symm
                refine V.eLo (lo' := [(9, .int (nI (i + 1))), (7, .long (lN (sumN (fun i => hrC τ (cn i) m 30) 0 i + (hrC τ (cn i) m 30)))), (5, .long (lN (sumN (fun i => baseN τ (ltN τ) (cn i) m) 0 (i + 1)))), (11, .long (lN (baseN τ (ltN τ) (cn i) m))), (10, .ref (fc i 0)), (0, .ref (f 0)), (1, .int (nI m)), (2, .ref (h 0)), (3, .ref (e 0)), (4, .int (hmX τ cn m (i + 1)))]) (congrArg (fun z_ => ([(9, .int (nI (i + 1))), (7, .long (lN (sumN (fun i => hrC τ (cn i) m 30) 0 i + (hrC τ (cn i) m 30)))), (5, .long (lN z_)), (11, .long (lN (baseN τ (ltN τ) (cn i) m))), (10, .ref (fc i 0)), (0, .ref (f 0)), (1, .int (nI m)), (2, .ref (h 0)), (3, .ref (e 0)), (4, .int (hmX τ cn m (i + 1)))] : List (Nat × Value))) jb5) ?_
                have jb7 : (sumN (fun i => hrC τ (cn i) m 30) 0 i + (hrC τ (cn i) m 30)) = (sumN (fun i => hrC τ (cn i) m 30) 0 (i + 1)) := by exact (sumN_1 (fun i => hrC τ (cn i) m 30) i).symm
                refine V.eLo (lo' := [(9, .int (nI (i + 1))), (7, .long (lN (sumN (fun i => hrC τ (cn i) m 30) 0 (i + 1)))), (5, .long (lN (sumN (fun i => baseN τ (ltN τ) (cn i) m) 0 (i + 1)))), (11, .long (lN (baseN τ (ltN τ) (cn i) m))), (10, .ref (fc i 0)), (0, .ref (f 0)), (1, .int (nI m)), (2, .ref (h 0)), (3, .ref (e 0)), (4, .int (hmX τ cn m (i + 1)))]) (congrArg (fun z_ => ([(9, .int (nI (i + 1))), (7, .long (lN z_)), (5, .long (lN (sumN (fun i => baseN τ (ltN τ) (cn i) m) 0 (i + 1)))), (11, .long (lN (baseN τ (ltN τ) (cn i) m))), (10, .ref (fc i 0)), (0, .ref (f 0)), (1, .int (nI m)), (2, .ref (h 0)), (3, .ref (e 0)), (4, .int (hmX τ cn m (i + 1)))] : List (Nat × Value))) jb7) ?_
                refine V.sub [5, 6, 7, 8, 9, 2, 1, 0] (lo' := [(0, .ref (f 0)), (1, .int (nI m)), (2, .ref (h 0)), (3, .ref (e 0)), (4, .int (hmX τ cn m (i + 1))), (5, .long (lN (sumN (fun i => baseN τ (ltN τ) (cn i) m) 0 (i + 1)))), (7, .long (lN (sumN (fun i => hrC τ (cn i) m 30) 0 (i + 1)))), (9, .int (nI (i + 1)))]) rfl ?_
                exact ih46 (wL M2 (f (2 + (un τ 1 (cn i)))) m ((boL τ p m (un τ 1 (cn i)) + lN (gbI τ cn m i (un τ 1 (cn i)))) + (lN (baseN τ (ltN τ) (cn i) m)))) (i + 1) (by omega) hgt2 hgr2 (by omega)
              · skip
                refine r_aload C 3 dX0_gather_123 rfl ?_
                refine r_iload_n C 5 dX0_gather_125 rfl rfl ?_
                refine r_callV C hgX (ci := 5) ml_X0_94 im_X3_hasDayIn se_X3_hasDayIn rfl rfl (show mK (wL M2 (f (2 + (un τ 1 (cn i)))) m ((boL τ p m (un τ 1 (cn i)) + lN (gbI τ cn m i (un τ 1 (cn i)))) + (lN (baseN τ (ltN τ) (cn i) m)))) (fc i 0) = 5 + 1 from (hbi.k 0 6 rfl)) (c_X3_hasDayIn l hfl G (wL M2 (f (2 + (un τ 1 (cn i)))) m ((boL τ p m (un τ 1 (cn i)) + lN (gbI τ cn m i (un τ 1 (cn i)))) + (lN (baseN τ (ltN τ) (cn i) m)))) (fc i) hbi τ hw (cn i) hci hfi m (by omega)) rfl (Nat.le_of_ble_eq_true rfl) ⟨Nat.le_of_ble_eq_true rfl, Nat.le_of_ble_eq_true rfl⟩ ⟨Nat.le_of_ble_eq_true rfl, Nat.le_of_ble_eq_true rfl⟩ dX0_gather_126 rfl ?_
                rintro _ _ ⟨rfl, rfl⟩
                refine V.eSt (st' := [.int (bI (hmB τ cn m i))]) rfl ?_
                refine r_if_eqB C (t := 139) dX0_gather_129 (by decide) (fun c129 => ?_) (fun c129 => ?_)
                · skip
                  refine r_iinc C (v := nI (i + 1)) (lo' := [(9, .int (nI (i + 1))), (7, .long (lN (sumN (fun i => hrC τ (cn i) m 30) 0 i + (hrC τ (cn i) m 30)))), (5, .long (lN (sumN (fun i => baseN τ (ltN τ) (cn i) m) 0 i + (baseN τ (ltN τ) (cn i) m)))), (11, .long (lN (baseN τ (ltN τ) (cn i) m))), (10, .ref (fc i 0)), (0, .ref (f 0)), (1, .int (nI m)), (2, .ref (h 0)), (3, .ref (e 0)), (4, .int (hmX τ cn m i))]) 9 dX0_gather_139 rfl (nI_addI i 1) (by decide) rfl ?_
                  refine r_goto C (t := 46) dX0_gather_142 (by decide) ?_
                  have jb4 : (hmX τ cn m i) = (hmX τ cn m (i + 1)) := by exact (hmX_f (.inr c129)).symm
                  refine V.eLo (lo' := [(9, .int (nI (i + 1))), (7, .long (lN (sumN (fun i => hrC τ (cn i) m 30) 0 i + (hrC τ (cn i) m 30)))), (5, .long (lN (sumN (fun i => baseN τ (ltN τ) (cn i) m) 0 i + (baseN τ (ltN τ) (cn i) m)))), (11, .long (lN (baseN τ (ltN τ) (cn i) m))), (10, .ref (fc i 0)), (0, .ref (f 0)), (1, .int (nI m)), (2, .ref (h 0)), (3, .ref (e 0)), (4, .int (hmX τ cn m (i + 1)))]) (congrArg (fun z_ => ([(9, .int (nI (i + 1))), (7, .long (lN (sumN (fun i => hrC τ (cn i) m 30) 0 i + (hrC τ (cn i) m 30)))), (5, .long (lN (sumN (fun i => baseN τ (ltN τ) (cn i) m) 0 i + (baseN τ (ltN τ) (cn i) m)))), (11, .long (lN (baseN τ (ltN τ) (cn i) m))), (10, .ref (fc i 0)), (0, .ref (f 0)), (1, .int (nI m)), (2, .ref (h 0)), (3, .ref (e 0)), (4, .int z_)] : List (Nat × Value))) jb4) ?_
                  have jb5 : (sumN (fun i => baseN τ (ltN τ) (cn i) m) 0 i + (baseN τ (ltN τ) (cn i) m)) = (sumN (fun i => baseN τ (ltN τ) (cn i) m) 0 (i + 1)) := by exact (sumN_1 (fun i => baseN τ (ltN τ) (cn i) m) i).symm
                  refine V.eLo (lo' := [(9, .int (nI (i + 1))), (7, .long (lN (sumN (fun i => hrC τ (cn i) m 30) 0 i + (hrC τ (cn i) m 30)))), (5, .long (lN (sumN (fun i => baseN τ (ltN τ) (cn i) m) 0 (i + 1)))), (11, .long (lN (baseN τ (ltN τ) (cn i) m))), (10, .ref (fc i 0)), (0, .ref (f 0)), (1, .int (nI m)), (2, .ref (h 0)), (3, .ref (e 0)), (4, .int (hmX τ cn m (i + 1)))]) (congrArg (fun z_ => ([(9, .int (nI (i + 1))), (7, .long (lN (sumN (fun i => hrC τ (cn i) m 30) 0 i + (hrC τ (cn i) m 30)))), (5, .long (lN z_)), (11, .long (lN (baseN τ (ltN τ) (cn i) m))), (10, .ref (fc i 0)), (0, .ref (f 0)), (1, .int (nI m)), (2, .ref (h 0)), (3, .ref (e 0)), (4, .int (hmX τ cn m (i + 1)))] : List (Nat × Value))) jb5) ?_
                  have jb7 : (sumN (fun i => hrC τ (cn i) m 30) 0 i + (hrC τ (cn i) m 30)) = (sumN (fun i => hrC τ (cn i) m 30) 0 (i + 1)) := by exact (sumN_1 (fun i => hrC τ (cn i) m 30) i).symm
                  refine V.eLo (lo' := [(9, .int (nI (i + 1))), (7, .long (lN (sumN (fun i => hrC τ (cn i) m 30) 0 (i + 1)))), (5, .long (lN (sumN (fun i => baseN τ (ltN τ) (cn i) m) 0 (i + 1)))), (11, .long (lN (baseN τ (ltN τ) (cn i) m))), (10, .ref (fc i 0)), (0, .ref (f 0)), (1, .int (nI m)), (2, .ref (h 0)), (3, .ref (e 0)), (4, .int (hmX τ cn m (i + 1)))]) (congrArg (fun z_ => ([(9, .int (nI (i + 1))), (7, .long (lN z_)), (5, .long (lN (sumN (fun i => baseN τ (ltN τ) (cn i) m) 0 (i + 1)))), (11, .long (lN (baseN τ (ltN τ) (cn i) m))), (10, .ref (fc i 0)), (0, .ref (f 0)), (1, .int (nI m)), (2, .ref (h 0)), (3, .ref (e 0)), (4, .int (hmX τ cn m (i + 1)))] : List (Nat × Value))) jb7) ?_
                  refine V.sub [5, 6, 7, 8, 9, 2, 1, 0] (lo' := [(0, .ref (f 0)), (1, .int (nI m)), (2, .ref (h 0)), (3, .ref (e 0)), (4, .int (hmX τ cn m (i + 1))), (5, .long (lN (sumN (fun i => baseN τ (ltN τ) (cn i) m) 0 (i + 1)))), (7, .long (lN (sumN (fun i => hrC τ (cn i) m 30) 0 (i + 1)))), (9, .int (nI (i + 1)))]) rfl ?_
                  exact ih46 (wL M2 (f (2 + (un τ 1 (cn i)))) m ((boL τ p m (un τ 1 (cn i)) + lN (gbI τ cn m i (un τ 1 (cn i)))) + (lN (baseN τ (ltN τ) (cn i) m)))) (i + 1) (by omega) hgt2 hgr2 (by omega)
                · skip
                  refine r_aload C 3 dX0_gather_132 rfl ?_
                  refine r_getI C fl_X0_87 rfl (hbi.k 0 6 rfl) dX0_gather_134 ?_
                  refine V.ei (y := nI (un τ 1 (cn i))) (hfi.2.1) ?_
                  refine r_istore C (lo' := [(4, .int (nI (un τ 1 (cn i)))), (7, .long (lN (sumN (fun i => hrC τ (cn i) m 30) 0 i + (hrC τ (cn i) m 30)))), (5, .long (lN (sumN (fun i => baseN τ (ltN τ) (cn i) m) 0 i + (baseN τ (ltN τ) (cn i) m)))), (11, .long (lN (baseN τ (ltN τ) (cn i) m))), (10, .ref (fc i 0)), (0, .ref (f 0)), (1, .int (nI m)), (2, .ref (h 0)), (3, .ref (e 0)), (9, .int (nI i))]) dX0_gather_137 (by decide) rfl ?_
                  refine r_iinc C (v := nI (i + 1)) (lo' := [(9, .int (nI (i + 1))), (4, .int (nI (un τ 1 (cn i)))), (7, .long (lN (sumN (fun i => hrC τ (cn i) m 30) 0 i + (hrC τ (cn i) m 30)))), (5, .long (lN (sumN (fun i => baseN τ (ltN τ) (cn i) m) 0 i + (baseN τ (ltN τ) (cn i) m)))), (11, .long (lN (baseN τ (ltN τ) (cn i) m))), (10, .ref (fc i 0)), (0, .ref (f 0)), (1, .int (nI m)), (2, .ref (h 0)), (3, .ref (e 0))]) 9 dX0_gather_139 rfl (nI_addI i 1) (by decide) rfl ?_
                  refine r_goto C (t := 46) dX0_gather_142 (by decide) ?_
                  have jb4 : (nI (un τ 1 (cn i))) = (hmX τ cn m (i + 1)) := by exact (hmX_t c120 c129 (fun j hj => (hw.cp _ (hpc.2.1.1 j (by omega)).1).2)).symm
                  refine V.eLo (lo' := [(9, .int (nI (i + 1))), (4, .int (hmX τ cn m (i + 1))), (7, .long (lN (sumN (fun i => hrC τ (cn i) m 30) 0 i + (hrC τ (cn i) m 30)))), (5, .long (lN (sumN (fun i => baseN τ (ltN τ) (cn i) m) 0 i + (baseN τ (ltN τ) (cn i) m)))), (11, .long (lN (baseN τ (ltN τ) (cn i) m))), (10, .ref (fc i 0)), (0, .ref (f 0)), (1, .int (nI m)), (2, .ref (h 0)), (3, .ref (e 0))]) (congrArg (fun z_ => ([(9, .int (nI (i + 1))), (4, .int z_), (7, .long (lN (sumN (fun i => hrC τ (cn i) m 30) 0 i + (hrC τ (cn i) m 30)))), (5, .long (lN (sumN (fun i => baseN τ (ltN τ) (cn i) m) 0 i + (baseN τ (ltN τ) (cn i) m)))), (11, .long (lN (baseN τ (ltN τ) (cn i) m))), (10, .ref (fc i 0)), (0, .ref (f 0)), (1, .int (nI m)), (2, .ref (h 0)), (3, .ref (e 0))] : List (Nat × Value))) jb4) ?_
                  have jb5 : (sumN (fun i => baseN τ (ltN τ) (cn i) m) 0 i + (baseN τ (ltN τ) (cn i) m)) = (sumN (fun i => baseN τ (ltN τ) (cn i) m) 0 (i + 1)) := by exact (sumN_1 (fun i => baseN τ (ltN τ) (cn i) m) i).symm
                  refine V.eLo (lo' := [(9, .int (nI (i + 1))), (4, .int (hmX τ cn m (i + 1))), (7, .long (lN (sumN (fun i => hrC τ (cn i) m 30) 0 i + (hrC τ (cn i) m 30)))), (5, .long (lN (sumN (fun i => baseN τ (ltN τ) (cn i) m) 0 (i + 1)))), (11, .long (lN (baseN τ (ltN τ) (cn i) m))), (10, .ref (fc i 0)), (0, .ref (f 0)), (1, .int (nI m)), (2, .ref (h 0)), (3, .ref (e 0))]) (congrArg (fun z_ => ([(9, .int (nI (i + 1))), (4, .int (hmX τ cn m (i + 1))), (7, .long (lN (sumN (fun i => hrC τ (cn i) m 30) 0 i + (hrC τ (cn i) m 30)))), (5, .long (lN z_)), (11, .long (lN (baseN τ (ltN τ) (cn i) m))), (10, .ref (fc i 0)), (0, .ref (f 0)), (1, .int (nI m)), (2, .ref (h 0)), (3, .ref (e 0))] : List (Nat × Value))) jb5) ?_
                  have jb7 : (sumN (fun i => hrC τ (cn i) m 30) 0 i + (hrC τ (cn i) m 30)) = (sumN (fun i => hrC τ (cn i) m 30) 0 (i + 1)) := by exact (sumN_1 (fun i => hrC τ (cn i) m 30) i).symm
                  refine V.eLo (lo' := [(9, .int (nI (i + 1))), (4, .int (hmX τ cn m (i + 1))), (7, .long (lN (sumN (fun i => hrC τ (cn i) m 30) 0 (i + 1)))), (5, .long (lN (sumN (fun i => baseN τ (ltN τ) (cn i) m) 0 (i + 1)))), (11, .long (lN (baseN τ (ltN τ) (cn i) m))), (10, .ref (fc i 0)), (0, .ref (f 0)), (1, .int (nI m)), (2, .ref (h 0)), (3, .ref (e 0))]) (congrArg (fun z_ => ([(9, .int (nI (i + 1))), (4, .int (hmX τ cn m (i + 1))), (7, .long (lN z_)), (5, .long (lN (sumN (fun i => baseN τ (ltN τ) (cn i) m) 0 (i + 1)))), (11, .long (lN (baseN τ (ltN τ) (cn i) m))), (10, .ref (fc i 0)), (0, .ref (f 0)), (1, .int (nI m)), (2, .ref (h 0)), (3, .ref (e 0))] : List (Nat × Value))) jb7) ?_
                  refine V.sub [6, 7, 8, 9, 1, 3, 2, 0] (lo' := [(0, .ref (f 0)), (1, .int (nI m)), (2, .ref (h 0)), (3, .ref (e 0)), (4, .int (hmX τ cn m (i + 1))), (5, .long (lN (sumN (fun i => baseN τ (ltN τ) (cn i) m) 0 (i + 1)))), (7, .long (lN (sumN (fun i => hrC τ (cn i) m 30) 0 (i + 1)))), (9, .int (nI (i + 1)))]) rfl ?_
                  exact ih46 (wL M2 (f (2 + (un τ 1 (cn i)))) m ((boL τ p m (un τ 1 (cn i)) + lN (gbI τ cn m i (un τ 1 (cn i)))) + (lN (baseN τ (ltN τ) (cn i) m)))) (i + 1) (by omega) hgt2 hgr2 (by omega)
        refine V.sub [4, 5, 6, 7, 3, 2, 1, 0] (lo' := [(0, .ref (f 0)), (1, .int (nI m)), (2, .ref (h 0)), (3, .ref (e 0)), (4, .int (-1)), (5, .long (lN 0)), (7, .long (lN 0)), (9, .int (nI 0))]) rfl ?_
        exact lp46 _ M1 0 (Nat.zero_le _) hgt (fun q hq => (hz q hq).trans (show _ = boL τ p m q + lN 0 from (Int64.add_zero _).symm)) (Nat.lt_succ_self _)
      · skip
        refine r_aload_n C 0 dX0_gather_9 rfl rfl ?_
        refine r_getR C (b := (f 1)) fl_X0_17 rfl (hb.k 0 4 rfl) (hb.r 0 1 1 rfl) dX0_gather_10 ?_
        refine r_iload C 4 dX0_gather_13 rfl ?_
        refine r_aaloadN C (b := (f (2 + q))) 5 (by decide) (hb.k 1 28 rfl) (hb.n 1 3 rfl) (by omega) (by omega) (hb.ro 1 2 3 1 rfl q (by omega)) dX0_gather_15 ?_
        refine r_iload_n C 1 dX0_gather_16 rfl rfl ?_
        refine r_aload_n C 2 dX0_gather_17 rfl rfl ?_
        refine r_getR C (b := (h 10)) fl_X0_61 rfl (hhb.k 0 11 rfl) (hhb.r 0 6 10 rfl) dX0_gather_18 ?_
        refine r_iload C 4 dX0_gather_21 rfl ?_
        refine r_aaloadN C (b := (h (11 + q))) 4 (by decide) (hhb.k 10 27 rfl) (hhb.n 10 3 rfl) (by omega) (by omega) (hhb.ro 10 11 3 1 rfl q (by omega)) dX0_gather_23 ?_
        refine r_iload_n C 1 dX0_gather_24 rfl rfl ?_
        refine r_ialoadN C (hhb.ko 11 20 3 rfl q (by omega)) (hhb.no 11 24 3 rfl q (by omega)) (by omega) (by omega) dX0_gather_25 ?_
        refine V.ei (y := τ.1 30 (72 * p + 3 * m + q)) ((congrFun (hgt.1.i (fun z => (hda _ z).2.2.1 q (by omega) rfl)) m).trans (hbn q (by omega))) ?_
        refine r_i2l C dX0_gather_26 ?_
        refine r_lastoreN C (hb.ko 2 21 3 rfl q (by omega)) (hb.no 2 24 3 rfl q (by omega)) (by omega) (by omega) dX0_gather_27 ?_
        refine r_iinc C (v := nI (q + 1)) (lo' := [(4, .int (nI (q + 1))), (0, .ref (f 0)), (1, .int (nI m)), (2, .ref (h 0)), (3, .ref (e 0))]) 4 dX0_gather_28 rfl (nI_addI q 1) (by decide) rfl ?_
        refine r_goto C (t := 3) dX0_gather_31 (by decide) ?_
        refine V.sub [1, 2, 3, 4, 0] (lo' := [(0, .ref (f 0)), (1, .int (nI m)), (2, .ref (h 0)), (3, .ref (e 0)), (4, .int (nI (q + 1)))]) rfl ?_
        exact ih3 (wL M1 (f (2 + q)) m ((τ.1 30 (72 * p + 3 * m + q)).toInt64)) (q + 1) (by omega) (hgt.wl hb (by omega) (by omega) _) (fun i hi => by by_cases z : i = q; (subst z; exact wL_i); exact (congrFun (wL_a (bk_n hb (show 2 + i < 42 by omega) (show 2 + q < 42 by omega) (by omega))) m).trans (hz i (by omega))) (by omega)
  refine V.sub [1, 2, 3, 4, 0] (lo' := [(0, .ref (f 0)), (1, .int (nI m)), (2, .ref (h 0)), (3, .ref (e 0)), (4, .int (nI 0))]) rfl ?_
  exact lp3 _ M 0 (Nat.zero_le _) (⟨frm.rf _ _, fun _ _ _ _ => rfl, fun _ _ => rfl⟩) (fun i hi => absurd hi (Nat.not_lt_zero _)) (Nat.lt_succ_self _)

