/-! THE REFERENCE: the slips of a person -/
def allL (τ : Mu) (p m : Nat) : Int64 := grL τ p m 0 + grL τ p m 1 + grL τ p m 2
def pnL (τ : Mu) (p m : Nat) : Int64 := if allL τ p m < lN 0 then lN 0 else rndL (allL τ p m * lN (ptN τ p m)) (lN 1000)
def mtL (τ : Mu) (p m : Nat) : Int64 := if allL τ p m < lN 0 then lN 0 else rndL (allL τ p m * lN (if ptN τ p m < 50 then ptN τ p m else 50)) (lN 1000)
def gY (τ : Mu) (p q y j : Nat) : Int64 := sumL (fun i => grL τ p (y * 12 + i) q) j
def ctY (τ : Mu) (p q y : Nat) : Nat → Int64
  | 0 => 0
  | j + 1 => ctY τ p q y j + ctM τ q (y * 12 + j) (gY τ p q y j + grL τ p (y * 12 + j) q) (ctY τ p q y j)
def ctL (τ : Mu) (p m q : Nat) : Int64 := ctM τ q m (gY τ p q (m / 12) (m % 12) + grL τ p m q) (ctY τ p q (m / 12) (m % 12))
def coL (τ : Mu) (p m q : Nat) : Int64 := rndL (ctL τ p m q * lN (crN τ q m)) (lN 1000)
def txL (τ : Mu) (p m q : Nat) : Int64 := grL τ p m q - coL τ p m q - (if q = homeN τ p m then pnL τ p m else lN 0)
def txY (τ : Mu) (p q y j : Nat) : Int64 := sumL (fun i => txL τ p (y * 12 + i) q) j
def duL (τ : Mu) (p m q : Nat) : Int64 := dueM τ p q m (txY τ p q (m / 12) (m % 12) + txL τ p m q)
def taL (τ : Mu) (p m q : Nat) : Int64 := duL τ p m q - (if m % 12 = 0 then 0 else duL τ p (m - 1) q)
def ntK (τ : Mu) (p m : Nat) : Nat → Int64
  | 0 => allL τ p m - pnL τ p m
  | q + 1 => ntK τ p m q - (coL τ p m q + taL τ p m q)
def ntL (τ : Mu) (p m : Nat) : Int64 := ntK τ p m 3
def hadL (τ : Mu) (p : Nat) : Nat → Nat → Int64
  | 0 => fun _ => lN 0
  | m + 1 => goneF τ p m (ntL τ p m) (hadL τ p m)
def lvL (τ : Mu) (p m : Nat) : Int64 := lfR τ p m (ntL τ p m) (hadL τ p m) 10
def bkV (l o : Int64) : Int64 := if l ≤ lN 0 then lN 0 else if l < o then l else o
def owL (τ : Mu) (p : Nat) : Nat → Int64
  | 0 => lN 0
  | m + 1 => (owL τ p m + τ.2 45 (24 * p + m)) - bkV (lvL τ p m) (owL τ p m + τ.2 45 (24 * p + m))
def bkL (τ : Mu) (p m : Nat) : Int64 := bkV (lvL τ p m) (owL τ p m + τ.2 45 (24 * p + m))
def pyL (τ : Mu) (p m : Nat) : Int64 := lvL τ p m - bkL τ p m
theorem ctY_s (τ : Mu) (p q y : Nat) : ∀ j, j ≤ 12 → ctY τ p q y j = sumL (fun i => ctL τ p (y * 12 + i) q) j
  | 0, _ => rfl
  | j + 1, h => by
    show _ + _ = sumL _ j + ctL τ p (y * 12 + j) q
    rw [← ctY_s τ p q y j (by omega)]
    unfold ctL
    rw [show (y * 12 + j) / 12 = y by omega, show (y * 12 + j) % 12 = j by omega]
theorem taL_s (τ : Mu) (p q y : Nat) : ∀ j, j ≤ 12 → sumL (fun i => taL τ p (y * 12 + i) q) j = if j = 0 then 0 else duL τ p (y * 12 + j - 1) q
  | 0, _ => rfl
  | j + 1, h => by
    show sumL _ j + taL τ p (y * 12 + j) q = _
    rw [taL_s τ p q y j (by omega), if_neg (show ¬ j + 1 = 0 by omega), show y * 12 + (j + 1) - 1 = y * 12 + j by omega]
    unfold taL
    rw [show (y * 12 + j) % 12 = j by omega, Int64.add_comm]
    exact Int64.sub_add_cancel _ _
/-- a month's slip, as it lies in the memory -/
def BKm (τ : Mu) (p : Nat) (M : Mem) (mb k : Nat) : Prop := (∀ q, q < 3 → mL M (ma mb 55) (3 * k + q) = grL τ p k q ∧ mL M (ma mb 56) (3 * k + q) = ctL τ p k q ∧ mL M (ma mb 57) (3 * k + q) = coL τ p k q ∧ mL M (ma mb 58) (3 * k + q) = txL τ p k q ∧ mL M (ma mb 59) (3 * k + q) = taL τ p k q)
  ∧ (mL M (ma mb 60) k = pnL τ p k ∧ mL M (ma mb 61) k = mtL τ p k ∧ mL M (ma mb 62) k = ntL τ p k ∧ mL M (ma mb 63) k = ntL τ p k - lvL τ p k ∧ mL M (ma mb 64) k = pyL τ p k)
  ∧ (∀ e, e < 6 → mL M (ma mb 65) (24 * e + k) = elL τ p k e) ∧ ∀ g, g < un τ 44 44 → un τ 38 g = p → mL M (ma mb 66) (24 * g + k) = hadL τ p (k + 1) g
def mon (f i : Nat) : Nat := if f ≤ 59 then i / 3 else if f ≤ 64 then i else i % 24
def mOnly (m mb : Nat) (M M' : Mem) : Prop := ∀ f, 55 ≤ f → f ≤ 66 → ∀ i, mon f i ≠ m → mL M' (ma mb f) i = mL M (ma mb f) i
theorem mOnly.mk {L : List Nat} {m mb : Nat} {M M' : Mem} (h : fOut L mb M M') (hL : ∀ f, 55 ≤ f → f ≤ 66 → L.contains f = true → ∀ i, mon f i ≠ m → mL M' (ma mb f) i = mL M (ma mb f) i) : mOnly m mb M M' := by
  intro f h1 h2 i hi
  cases hc : L.contains f with
  | true => exact hL f h1 h2 hc i hi
  | false => exact congrFun ((h.2.2.2.2 f (by omega) hc).2 ((show ∀ f, f < 67 → 55 ≤ f → mkd.getD f 0 ≠ 0 by decide) f (by omega) h1)).2 i
theorem BKm.mo {τ : Mu} {p m mb k : Nat} {M M' : Mem} (h : BKm τ p M mb k) (g : mOnly m mb M M') (hk : k ≠ m) (hk4 : k < 24) : BKm τ p M' mb k := by
  obtain ⟨h1, ⟨h2, h3, h4, h5, h6⟩, h7, h8⟩ := h
  refine ⟨fun q hq => ?_, ⟨?_, ?_, ?_, ?_, ?_⟩, fun e he => ?_, fun j hj hp => ?_⟩
  · obtain ⟨a1, a2, a3, a4, a5⟩ := h1 q hq
    have z : (3 * k + q) / 3 = k := by omega
    exact ⟨(g 55 (by omega) (by omega) _ (by show (3 * k + q) / 3 ≠ m; omega)).trans a1, (g 56 (by omega) (by omega) _ (by show (3 * k + q) / 3 ≠ m; omega)).trans a2, (g 57 (by omega) (by omega) _ (by show (3 * k + q) / 3 ≠ m; omega)).trans a3, (g 58 (by omega) (by omega) _ (by show (3 * k + q) / 3 ≠ m; omega)).trans a4, (g 59 (by omega) (by omega) _ (by show (3 * k + q) / 3 ≠ m; omega)).trans a5⟩
  · exact (g 60 (by omega) (by omega) _ hk).trans h2
  · exact (g 61 (by omega) (by omega) _ hk).trans h3
  · exact (g 62 (by omega) (by omega) _ hk).trans h4
  · exact (g 63 (by omega) (by omega) _ hk).trans h5
  · exact (g 64 (by omega) (by omega) _ hk).trans h6
  · exact (g 65 (by omega) (by omega) _ (by show (24 * e + k) % 24 ≠ m; omega)).trans (h7 e he)
  · exact (g 66 (by omega) (by omega) _ (by show (24 * j + k) % 24 ≠ m; omega)).trans (h8 j hj hp)
/-- the month under way, its places ahead of q done -/
def MF (τ : Mu) (p : Nat) (M : Mem) (mb m q : Nat) (x : Int64) : Prop := (∀ i, i < 3 → mL M (ma mb 55) (3 * m + i) = grL τ p m i) ∧ (∀ i, i < q → mL M (ma mb 56) (3 * m + i) = ctL τ p m i ∧ mL M (ma mb 57) (3 * m + i) = coL τ p m i ∧ mL M (ma mb 58) (3 * m + i) = txL τ p m i ∧ mL M (ma mb 59) (3 * m + i) = taL τ p m i)
  ∧ mL M (ma mb 60) m = pnL τ p m ∧ mL M (ma mb 61) m = mtL τ p m ∧ mL M (ma mb 62) m = x ∧ ∀ e, e < 6 → mL M (ma mb 65) (24 * e + m) = elL τ p m e
theorem ne_f {mb j k : Nat} (h : (mrk.getD j 0 == mrk.getD k 0) = false) {M : Mem} {x i : Nat} {v : Int64} : mL (wL M (ma mb k) x v) (ma mb j) i = mL M (ma mb j) i := congrFun (up2_row _ _ (ma_ne h)) i
theorem eq_f {M : Mem} {a x : Nat} {v : Int64} : mL (wL M a x v) a x = v := up2_same _ _ _ _
theorem in_f {M : Mem} {a x i : Nat} {v : Int64} (h : i ≠ x) : mL (wL M a x v) a i = mL M a i := up2_k _ _ h
theorem fOut.rfL {L : List Nat} {mb : Nat} {M : Mem} (k x : Nat) (v : Int64) (hc : fck L k = true) : fOut L mb M (wL M (ma mb k) x v) := (fOut.rf L mb M).setL k x v hc
theorem mOnly.set {m mb : Nat} {M : Mem} (k x : Nat) (v : Int64) (hx : mon k x = m) (hk : ∀ f, 55 ≤ f → f ≤ 66 → f ≠ k → ma mb f ≠ ma mb k) : mOnly m mb M (wL M (ma mb k) x v) := by
  intro f h1 h2 i hi
  by_cases e : f = k
  · subst e; exact up2_k _ _ (fun z => hi (z ▸ hx))
  · exact up2_a _ _ (hk f h1 h2 e)
theorem sc_ne {k : Nat} (h1 : 55 ≤ k) (h2 : k ≤ 66) (mb : Nat) : ∀ f, 55 ≤ f → f ≤ 66 → f ≠ k → ma mb f ≠ ma mb k := by
  intro f h3 h4 h5
  have key : (List.range 67).all (fun k => (List.range 67).all (fun f => decide (k < 55) || (decide (f < 55) || (decide (f = k) || decide (mrk.getD f 0 ≠ mrk.getD k 0))))) = true := by decide +kernel
  have k2 := List.all_eq_true.mp (List.all_eq_true.mp key k (List.mem_range.mpr (by omega))) f (List.mem_range.mpr (by omega))
  simp only [Bool.or_eq_true, decide_eq_true_eq] at k2
  have h6 : mrk.getD f 0 ≠ mrk.getD k 0 := by
    rcases k2 with k2 | k2 | k2 | k2
    · omega
    · omega
    · exact absurd k2 h5
    · exact k2
  unfold ma; omega
theorem mOnly.s {m mb : Nat} {M : Mem} (k : Nat) (v : Int64) (h : (decide (60 ≤ k) && decide (k ≤ 64)) = true) : mOnly m mb M (wL M (ma mb k) m v) := by
  simp only [Bool.and_eq_true, decide_eq_true_eq] at h
  exact mOnly.set k m v (by unfold mon; rw [if_neg (by omega), if_pos h.2]) (sc_ne (by omega) (by omega) mb)
theorem sl_start {τ : Mu} {p m mb : Nat} {M : Mem} (hm : m < 24) (hbk : ∀ k, k < m → BKm τ p M mb k) (hgr : ∀ i, i < 3 → mL M (ma mb 55) (3 * m + i) = grL τ p m i) (hel : ∀ e, e < 6 → mL M (ma mb 65) (24 * e + m) = elL τ p m e) :
    (∀ k, k < m → BKm τ p (wL (wL (wL M (ma mb 60) m (pnL τ p m)) (ma mb 61) m (mtL τ p m)) (ma mb 62) m (allL τ p m - pnL τ p m)) mb k) ∧ MF τ p (wL (wL (wL M (ma mb 60) m (pnL τ p m)) (ma mb 61) m (mtL τ p m)) (ma mb 62) m (allL τ p m - pnL τ p m)) mb m 0 (ntK τ p m 0) := by
  refine ⟨fun k hk => ?_, ?_⟩
  · exact (((hbk k hk).mo (mOnly.s 60 _ rfl) (by omega) (by omega)).mo (mOnly.s 61 _ rfl) (by omega) (by omega)).mo (mOnly.s 62 _ rfl) (by omega) (by omega)
  · refine ⟨fun i hi => ?_, fun i hi => absurd hi (Nat.not_lt_zero _), ?_, ?_, ?_, fun e he => ?_⟩
    · exact (ne_f rfl).trans ((ne_f rfl).trans ((ne_f rfl).trans (hgr i hi)))
    · exact (ne_f rfl).trans ((ne_f rfl).trans eq_f)
    · exact (ne_f rfl).trans eq_f
    · exact eq_f
    · exact (ne_f rfl).trans ((ne_f rfl).trans ((ne_f rfl).trans (hel e he)))
theorem sl_contr {τ : Mu} {p m q mb : Nat} {x : Int64} {M M' : Mem} (hm : m < 24) (hq : q < 3) (hbk : ∀ k, k < m → BKm τ p M mb k) (h : MF τ p M mb m q x) (hfo : fOut [56, 57] mb M M')
    (hct : mL M' (ma mb 56) (3 * m + q) = ctM τ q m (ysL M mb 55 m q + mL M (ma mb 55) (3 * m + q)) (ysL M mb 56 m q)) (hco : mL M' (ma mb 57) (3 * m + q) = rndL (ctM τ q m (ysL M mb 55 m q + mL M (ma mb 55) (3 * m + q)) (ysL M mb 56 m q) * lN (crN τ q m)) (lN 1000))
    (h56 : ∀ i, i ≠ 3 * m + q → mL M' (ma mb 56) i = mL M (ma mb 56) i) (h57 : ∀ i, i ≠ 3 * m + q → mL M' (ma mb 57) i = mL M (ma mb 57) i) :
    (∀ k, k < m → BKm τ p M' mb k) ∧ MF τ p M' mb m q x ∧ mL M' (ma mb 56) (3 * m + q) = ctL τ p m q ∧ mL M' (ma mb 57) (3 * m + q) = coL τ p m q := by
  have hmo : mOnly m mb M M' := mOnly.mk hfo (fun f h1 h2 hc i hi => by
    have hc2 : f = 56 ∨ f = 57 := by simpa using hc
    rcases hc2 with rfl | rfl
    · exact h56 i (fun z => hi (by rw [z]; show (3 * m + q) / 3 = m; omega))
    · exact h57 i (fun z => hi (by rw [z]; show (3 * m + q) / 3 = m; omega)))
  have e55 : ysL M mb 55 m q = gY τ p q (m / 12) (m % 12) := sumL_cg (fun i hi => ((hbk _ (by omega)).1 q hq).1)
  have e56 : ysL M mb 56 m q = ctY τ p q (m / 12) (m % 12) := by
    rw [ctY_s τ p q _ _ (by omega)]
    exact sumL_cg (fun i hi => ((hbk _ (by omega)).1 q hq).2.1)
  have ec : ctM τ q m (ysL M mb 55 m q + mL M (ma mb 55) (3 * m + q)) (ysL M mb 56 m q) = ctL τ p m q := by
    rw [e55, e56, h.1 q hq]; rfl
  rw [ec] at hct hco
  refine ⟨fun k hk => (hbk k hk).mo hmo (by omega) (by omega), ⟨fun i hi => ?_, fun i hi => ?_, ?_, ?_, ?_, fun e he => ?_⟩, hct, hco⟩
  · rw [hfo.l 55 rfl]; exact h.1 i hi
  · obtain ⟨a1, a2, a3, a4⟩ := h.2.1 i hi
    exact ⟨(h56 _ (by omega)).trans a1, (h57 _ (by omega)).trans a2, by rw [hfo.l 58 rfl]; exact a3, by rw [hfo.l 59 rfl]; exact a4⟩
  · rw [hfo.l 60 rfl]; exact h.2.2.1
  · rw [hfo.l 61 rfl]; exact h.2.2.2.1
  · rw [hfo.l 62 rfl]; exact h.2.2.2.2.1
  · rw [hfo.l 65 rfl]; exact h.2.2.2.2.2 e he
theorem sl_tax {τ : Mu} {p m q mb : Nat} {x : Int64} {M M' : Mem} (hm : m < 24) (hq : q < 3) (hbk : ∀ k, k < m → BKm τ p M mb k) (h : MF τ p M mb m q x) (hc56 : mL M (ma mb 56) (3 * m + q) = ctL τ p m q) (hc57 : mL M (ma mb 57) (3 * m + q) = coL τ p m q) (hfo : fOut [58, 59] mb M M')
    (htx : mL M' (ma mb 58) (3 * m + q) = mL M (ma mb 55) (3 * m + q) - mL M (ma mb 57) (3 * m + q) - (if q = homeN τ p m then mL M (ma mb 60) m else lN 0))
    (hta : mL M' (ma mb 59) (3 * m + q) = dueM τ p q m (ysL M mb 58 m q + (mL M (ma mb 55) (3 * m + q) - mL M (ma mb 57) (3 * m + q) - (if q = homeN τ p m then mL M (ma mb 60) m else lN 0))) - ysL M mb 59 m q)
    (h58 : ∀ i, i ≠ 3 * m + q → mL M' (ma mb 58) i = mL M (ma mb 58) i) (h59 : ∀ i, i ≠ 3 * m + q → mL M' (ma mb 59) i = mL M (ma mb 59) i) :
    (∀ k, k < m → BKm τ p M' mb k) ∧ MF τ p M' mb m (q + 1) x := by
  have hmo : mOnly m mb M M' := mOnly.mk hfo (fun f h1 h2 hc i hi => by
    have hc2 : f = 58 ∨ f = 59 := by simpa using hc
    rcases hc2 with rfl | rfl
    · exact h58 i (fun z => hi (by rw [z]; show (3 * m + q) / 3 = m; omega))
    · exact h59 i (fun z => hi (by rw [z]; show (3 * m + q) / 3 = m; omega)))
  have ex : mL M (ma mb 55) (3 * m + q) - mL M (ma mb 57) (3 * m + q) - (if q = homeN τ p m then mL M (ma mb 60) m else lN 0) = txL τ p m q := by
    rw [h.1 q hq, hc57, h.2.2.1]; rfl
  have e58 : ysL M mb 58 m q = txY τ p q (m / 12) (m % 12) := sumL_cg (fun i hi => ((hbk _ (by omega)).1 q hq).2.2.2.1)
  have e59 : ysL M mb 59 m q = if m % 12 = 0 then 0 else duL τ p (m - 1) q := by
    rw [show ysL M mb 59 m q = sumL (fun i => taL τ p (m / 12 * 12 + i) q) (m % 12) from sumL_cg (fun i hi => ((hbk _ (by omega)).1 q hq).2.2.2.2), taL_s τ p q _ _ (by omega), show m / 12 * 12 + m % 12 - 1 = m - 1 by omega]
  rw [ex, e58, e59] at hta
  rw [ex] at htx
  refine ⟨fun k hk => (hbk k hk).mo hmo (by omega) (by omega), ⟨fun i hi => ?_, fun i hi => ?_, ?_, ?_, ?_, fun e he => ?_⟩⟩
  · rw [hfo.l 55 rfl]; exact h.1 i hi
  · by_cases z : i = q
    · subst z
      exact ⟨by rw [hfo.l 56 rfl]; exact hc56, by rw [hfo.l 57 rfl]; exact hc57, htx, hta⟩
    · obtain ⟨a1, a2, a3, a4⟩ := h.2.1 i (by omega)
      exact ⟨by rw [hfo.l 56 rfl]; exact a1, by rw [hfo.l 57 rfl]; exact a2, (h58 _ (by omega)).trans a3, (h59 _ (by omega)).trans a4⟩
  · rw [hfo.l 60 rfl]; exact h.2.2.1
  · rw [hfo.l 61 rfl]; exact h.2.2.2.1
  · rw [hfo.l 62 rfl]; exact h.2.2.2.2.1
  · rw [hfo.l 65 rfl]; exact h.2.2.2.2.2 e he
theorem sl_net {τ : Mu} {p m q mb : Nat} {M : Mem} {x : Int64} (hm : m < 24) (hbk : ∀ k, k < m → BKm τ p M mb k) (h : MF τ p M mb m q x) (y : Int64) : (∀ k, k < m → BKm τ p (wL M (ma mb 62) m y) mb k) ∧ MF τ p (wL M (ma mb 62) m y) mb m q y :=
  ⟨fun k hk => (hbk k hk).mo (mOnly.s 62 _ rfl) (by omega) (by omega),
   fun i hi => (ne_f rfl).trans (h.1 i hi), fun i hi => ⟨(ne_f rfl).trans (h.2.1 i hi).1, (ne_f rfl).trans (h.2.1 i hi).2.1, (ne_f rfl).trans (h.2.1 i hi).2.2.1, (ne_f rfl).trans (h.2.1 i hi).2.2.2⟩,
   (ne_f rfl).trans h.2.2.1, (ne_f rfl).trans h.2.2.2.1, eq_f, fun e he => (ne_f rfl).trans (h.2.2.2.2.2 e he)⟩
theorem lfK_cg {τ : Mu} {p m : Nat} {nt : Int64} {h h' : Nat → Int64} (hh : ∀ g, g < un τ 44 44 → un τ 38 g = p → h g = h' g) (r : Nat) (l0 : Int64) : ∀ n, n ≤ un τ 44 44 → lfK τ p m nt h r l0 n = lfK τ p m nt h' r l0 n
  | 0, _ => rfl
  | n + 1, hn => by
    unfold lfK
    rw [lfK_cg hh r l0 n (by omega)]
    by_cases z : un τ 40 n = r ∧ un τ 38 n = p ∧ un τ 39 n ≤ m
    · rw [if_pos z, if_pos z, hh n (by omega) z.2.1]
    · rw [if_neg z, if_neg z]
theorem lfR_cg {τ : Mu} {p m : Nat} {nt : Int64} {h h' : Nat → Int64} (hh : ∀ g, g < un τ 44 44 → un τ 38 g = p → h g = h' g) : ∀ r, lfR τ p m nt h r = lfR τ p m nt h' r
  | 0 => rfl
  | r + 1 => by
    show lfK _ _ _ _ _ _ _ _ = lfK _ _ _ _ _ _ _ _
    rw [lfR_cg hh r, lfK_cg hh r _ _ (Nat.le_refl _)]
theorem goneF_cg {τ : Mu} {p m : Nat} {nt : Int64} {h h' : Nat → Int64} (hh : ∀ g, g < un τ 44 44 → un τ 38 g = p → h g = h' g) {g : Nat} (hg : g < un τ 44 44) (hp : un τ 38 g = p) : goneF τ p m nt h g = goneF τ p m nt h' g := by
  unfold goneF
  rw [lfR_cg hh, lfK_cg hh _ _ _ (by omega), hh g hg hp]
theorem sl_garn {τ : Mu} {p m mb : Nat} {M M' : Mem} (hm : m < 24) (hbk : ∀ k, k < m → BKm τ p M mb k) (h : MF τ p M mb m 3 (ntL τ p m)) (hfo : fOut [63, 64, 66] mb M M')
    (htk : mL M' (ma mb 63) m = mL M (ma mb 62) m - lfR τ p m (mL M (ma mb 62) m) (gHad M mb m) 10) (hpy : mL M' (ma mb 64) m = lfR τ p m (mL M (ma mb 62) m) (gHad M mb m) 10)
    (hgn : ∀ j, j < un τ 44 44 → un τ 38 j = p → mL M' (ma mb 66) (24 * j + m) = goneF τ p m (mL M (ma mb 62) m) (gHad M mb m) j)
    (h63 : ∀ i, i ≠ m → mL M' (ma mb 63) i = mL M (ma mb 63) i) (h64 : ∀ i, i ≠ m → mL M' (ma mb 64) i = mL M (ma mb 64) i) (h66 : ∀ i, i % 24 ≠ m → mL M' (ma mb 66) i = mL M (ma mb 66) i) :
    (∀ k, k < m → BKm τ p M' mb k) ∧ mL M' (ma mb 64) m = lvL τ p m ∧ ∀ y, BKm τ p (wL M' (ma mb 64) m (lvL τ p m - bkL τ p m)) mb m ∧ (y < m → BKm τ p (wL M' (ma mb 64) m (lvL τ p m - bkL τ p m)) mb y) := by
  have hmo : mOnly m mb M M' := mOnly.mk hfo (fun f h1 h2 hc i hi => by
    have hc2 : f = 63 ∨ f = 64 ∨ f = 66 := by simpa using hc
    rcases hc2 with rfl | rfl | rfl
    · exact h63 i hi
    · exact h64 i hi
    · exact h66 i hi)
  have hh : ∀ g, g < un τ 44 44 → un τ 38 g = p → gHad M mb m g = hadL τ p m g := by
    intro g hg hp
    unfold gHad
    by_cases z : m = 0
    · rw [if_pos z, z]; rfl
    · rw [if_neg z, show 24 * g + m - 1 = 24 * g + (m - 1) by omega, (hbk (m - 1) (by omega)).2.2.2 g hg hp, show m - 1 + 1 = m by omega]
  have hnt := h.2.2.2.2.1
  rw [hnt, lfR_cg hh] at htk hpy
  have hbk' : ∀ k, k < m → BKm τ p M' mb k := fun k hk => (hbk k hk).mo hmo (by omega) (by omega)
  refine ⟨hbk', hpy, fun y => ⟨⟨fun q hq => ?_, ⟨?_, ?_, ?_, ?_, eq_f⟩, fun e he => ?_, fun g hg hp => ?_⟩, fun hy => (hbk' y hy).mo (mOnly.s 64 _ rfl) (by omega) (by omega)⟩⟩
  · obtain ⟨a1, a2, a3, a4⟩ := h.2.1 q hq
    exact ⟨(ne_f rfl).trans (by rw [hfo.l 55 rfl]; exact h.1 q hq), (ne_f rfl).trans (by rw [hfo.l 56 rfl]; exact a1), (ne_f rfl).trans (by rw [hfo.l 57 rfl]; exact a2), (ne_f rfl).trans (by rw [hfo.l 58 rfl]; exact a3), (ne_f rfl).trans (by rw [hfo.l 59 rfl]; exact a4)⟩
  · exact (ne_f rfl).trans (by rw [hfo.l 60 rfl]; exact h.2.2.1)
  · exact (ne_f rfl).trans (by rw [hfo.l 61 rfl]; exact h.2.2.2.1)
  · exact (ne_f rfl).trans (by rw [hfo.l 62 rfl]; exact hnt)
  · exact (ne_f rfl).trans htk
  · exact (ne_f rfl).trans (by rw [hfo.l 65 rfl]; exact h.2.2.2.2.2 e he)
  · refine (ne_f rfl).trans ((hgn g hg hp).trans ?_)
    rw [hnt, goneF_cg hh hg hp]; rfl
def LTB (M : Mem) (mb : Nat) : Prop := ∃ lt : Nat → Nat, ∀ k, k < 30 → mI M (ma mb 16) k = nI (lt k) ∧ lt k ≤ 1
theorem sl_lt {τ : Mu} {p mb : Nat} {M M' : Mem} (hnl : un τ 17 17 ≤ 30) (h : LTB M mb) (h1 : ∀ k, k < un τ 17 17 → mI M' (ma mb 16) k = if un τ 0 (un τ 14 k) = p then nI (ltN τ k) else mI M (ma mb 16) k) (h2 : ∀ k, un τ 17 17 ≤ k → mI M' (ma mb 16) k = mI M (ma mb 16) k) :
    ∃ lt : Nat → Nat, (∀ k, k < 30 → mI M' (ma mb 16) k = nI (lt k) ∧ lt k ≤ 1) ∧ ∀ k, k < un τ 17 17 → un τ 0 (un τ 14 k) = p → lt k = ltN τ k := by
  obtain ⟨lt, hl⟩ := h
  refine ⟨fun k => if k < un τ 17 17 ∧ un τ 0 (un τ 14 k) = p then ltN τ k else lt k, fun k hk => ?_, fun k hk hp => if_pos ⟨hk, hp⟩⟩
  by_cases z : k < un τ 17 17
  · rw [h1 k z]
    by_cases y : un τ 0 (un τ 14 k) = p
    · rw [if_pos y]; show _ = nI (if _ then _ else _) ∧ (if _ then _ else _) ≤ 1; rw [if_pos ⟨z, y⟩]; exact ⟨rfl, ltN_le τ k⟩
    · rw [if_neg y]; show _ = nI (if _ then _ else _) ∧ (if _ then _ else _) ≤ 1; rw [if_neg (fun q => y q.2)]; exact hl k hk
  · rw [h2 k (by omega)]; show _ = nI (if _ then _ else _) ∧ (if _ then _ else _) ≤ 1; rw [if_neg (fun q => z q.1)]; exact hl k hk

