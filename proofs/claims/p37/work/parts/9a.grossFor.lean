/-! grossFor -/
def gfS (τ : Mu) (A i : Nat) : Mu := if i = 0 then τ else sI τ 30 A (τ.1 30 A + nI (10000 * i))
theorem gfS_1 {τ : Mu} {A i k : Nat} (h : k ≠ 30) : (gfS τ A i).1 k = τ.1 k := by
  unfold gfS
  split
  · rfl
  · exact sI_r h
theorem gfS_2 {τ : Mu} {A i : Nat} : (gfS τ A i).2 = τ.2 := by
  unfold gfS
  split <;> rfl
theorem gfS_o {τ : Mu} {A i x : Nat} (h : x ≠ A) : (gfS τ A i).1 30 x = τ.1 30 x := by
  unfold gfS
  split
  · rfl
  · exact sI_k h
theorem gfS_w {τ : Mu} (hw : WF τ) (hbo : BO τ) {A i : Nat} (hA : A < 432) (hi : i ≤ 200) : WF (gfS τ A i) := by
  unfold gfS
  split
  · exact hw
  · have b := hbo A hA
    have c := bo_add b.1 b.2 (show 10000 * i ≤ 2000000 by omega)
    exact wf_bonus hw c.1 c.2
theorem bo_64 {b : Int32} {n : Nat} (h1 : -10000000 ≤ b.toInt) (h2 : b.toInt ≤ 10000000) (hn : n ≤ 2000000) : (b + nI n).toInt64 = b.toInt64 + lN n := by
  apply Int64.toInt_inj.mp
  rw [Int32.toInt_toInt64, Int32.toInt_add, nI_toInt (by omega), Int64.toInt_add, Int32.toInt_toInt64, pk_lT (by omega), Int.bmod_eq_of_le (by omega) (by omega), Int.bmod_eq_of_le (by omega) (by omega)]
theorem gfS_g {τ : Mu} (hbo : BO τ) {p m q i : Nat} (hp : p < 6) (hm : m < 24) (hq : q < 3) (hi : i ≤ 200) : grL (gfS τ (72 * p + 3 * m + q) i) p m q = grL τ p m q + lN (10000 * i) := by
  unfold gfS
  by_cases e : i = 0
  · rw [if_pos e, e, show lN (10000 * 0) = 0 from rfl, Int64.add_zero]
  · rw [if_neg e]
    have h30 : ∀ k, k < 30 → (sI τ 30 (72 * p + 3 * m + q) (τ.1 30 (72 * p + 3 * m + q) + nI (10000 * i))).1 k = τ.1 k := fun k hk => sI_r (by omega)
    have b := hbo (72 * p + 3 * m + q) (by omega)
    unfold grL boL
    rw [sI_s, bo_64 b.1 b.2 (by omega), u_gb h30, u_ho h30, u_gE h30, un_e (h30 9 (by decide)), un_e (h30 26 (by decide))]
    ac_rfl
theorem gfS_go {τ : Mu} {p m q' i A : Nat} (h : 72 * p + 3 * m + q' ≠ A) : grL (gfS τ A i) p m q' = grL τ p m q' := u_gr (fun k hk => gfS_1 (by omega)) (gfS_o h)
theorem gfS_v {τ : Mu} {p m q i : Nat} (hq : q < 3) : VN m p τ (gfS τ (72 * p + 3 * m + q) i) := ⟨fun k hk => gfS_1 (by omega), fun k h1 h2 => gfS_1 (by omega), fun k h1 h2 => gfS_1 (by omega), fun j x hj hx => gfS_o (by omega), fun j _ => congrFun (gfS_1 (by decide)) _, fun j _ => congrFun (gfS_1 (by decide)) _, fun j _ => by rw [gfS_2]⟩
theorem gf_yes {τ : Mu} {A p m i : Nat} {due : Int64} (h1 : 1 ≤ i) (h2 : i ≤ 200) (hno : ∀ k, k + 1 < i → gfB τ A p m due k = false) (h : due ≤ ntL (gfS τ A i) p m) : gfO τ A p m due = nI (10000 * i) := by
  obtain ⟨j, rfl⟩ : ∃ j, i = j + 1 := ⟨i - 1, by omega⟩
  unfold gfO
  rw [fst_some (j := j) (f := gfB τ A p m due) (by
    unfold gfB
    unfold gfS at h
    rw [if_neg (by omega)] at h
    exact decide_eq_true h) (fun k hk => hno k (by omega)) (by omega)]
theorem gf_no {τ : Mu} {A p m : Nat} {due : Int64} (hno : ∀ k, k + 1 < 200 → gfB τ A p m due k = false) (h : ¬ due ≤ ntL (gfS τ A 200) p m) : gfO τ A p m due = -1 := by
  unfold gfO
  rw [fst_none (fun k hk => by
    by_cases e : k = 199
    · subst e
      unfold gfB
      unfold gfS at h
      rw [if_neg (by decide)] at h
      exact decide_eq_false h
    · exact hno k (by omega))]
/-- grossFor's work on a book -/
def GI (τ : Mu) (α : Nat → Nat) (p m q i : Nat) (MB M1 : Mem) : Prop := frm (BkA (bO α p)) MB M1 ∧ mI M1 = mI MB ∧ (∀ o, o < 42 → ∀ k, k ≠ m → mL M1 (bO α p o) k = mL MB (bO α p o) k) ∧ (∀ o, 29 ≤ o → o < 42 → o ≠ 37 → o ≠ 38 → o ≠ 39 → mL M1 (bO α p o) = mL MB (bO α p o)) ∧ (∀ x, x < 3 → x ≠ q → mL M1 (bO α p (2 + x)) m = grL τ p m x) ∧ mL M1 (bO α p 39) m = ntL (gfS τ (72 * p + 3 * m + q) i) p m
theorem GI.of {τ : Mu} {α : Nat → Nat} {p m q : Nat} {MB : Mem} (hm : m < 24) (bf : BF τ p α MB) : GI τ α p m q 0 MB MB :=
  ⟨frm.rf _ _, rfl, fun _ _ _ _ => rfl, fun _ _ _ _ _ _ => rfl, fun x hx _ => ((bf.1 m hm).1.1 x hx).1, (bf.1 m hm).1.2.2.2⟩
section Gf
variable {τ : Mu} {G : gW} {α : Nat → Nat} {p m q i j : Nat} {MB M1 M3 : Mem} {v : Int64}
theorem gf_pre (hw : WF τ) (hbo : BO τ) (hws : WS τ G α MB) (hwt : WT τ α MB) (bf : BF τ p α MB) (hp : p < 6) (hm : m < 24) (hq : q < 3) (hj : j ≤ 200) (g : GI τ α p m q i MB M1) (hv : v = grL (gfS τ (72 * p + 3 * m + q) j) p m q) :
    (∀ Mx : Mem, frm (BkA (bO α p)) (wL M1 (bO α p (2 + q)) m v) Mx → PeT (gfS τ (72 * p + 3 * m + q) j) p Mx (hO α p) ∧ ∀ x, x < 3 → PlT (gfS τ (72 * p + 3 * m + q) j) x Mx (gO α x)) ∧ (∀ x, x < 3 → mL (wL M1 (bO α p (2 + q)) m v) (bO α p (2 + x)) m = grL (gfS τ (72 * p + 3 * m + q) j) p m x) ∧ mI (wL M1 (bO α p (2 + q)) m v) (bO α p 36) m = nI (homeN (gfS τ (72 * p + 3 * m + q) j) p m) ∧
    (m % 12 ≠ 0 → ∀ x, x < 3 → mL (wL M1 (bO α p (2 + q)) m v) (bO α p (14 + x)) (m - 1) = gY (gfS τ (72 * p + 3 * m + q) j) p x (m / 12) (m % 12) ∧ mL (wL M1 (bO α p (2 + q)) m v) (bO α p (18 + x)) (m - 1) = ctY (gfS τ (72 * p + 3 * m + q) j) p x (m / 12) (m % 12) ∧ mL (wL M1 (bO α p (2 + q)) m v) (bO α p (22 + x)) (m - 1) = txY (gfS τ (72 * p + 3 * m + q) j) p x (m / 12) (m % 12) ∧ mL (wL M1 (bO α p (2 + q)) m v) (bO α p (26 + x)) (m - 1) = duL (gfS τ (72 * p + 3 * m + q) j) p (m - 1) x) ∧ frm (BkA (bO α p)) MB (wL M1 (bO α p (2 + q)) m v) := by
  obtain ⟨g1, g2, g3, g4, g5, g6⟩ := g
  have hb := hws.bk hp
  have f2 : frm (BkA (bO α p)) MB (wL M1 (bO α p (2 + q)) m v) := g1.wl _ _ ⟨2 + q, by omega, by omega, rfl⟩
  have vn := gfS_v (τ := τ) (p := p) (m := m) (i := j) hq
  have h30 : ∀ k, k ≠ 30 → (gfS τ (72 * p + 3 * m + q) j).1 k = τ.1 k := fun k hk => gfS_1 hk
  have has : ∀ r a, hasB (gfS τ (72 * p + 3 * m + q) j) r a = hasB τ r a := fun r a => by
    funext k
    unfold hasB
    rw [h30 31 (by decide), h30 36 (by decide), h30 37 (by decide), un_e (h30 33 (by decide))]
  have eo : ∀ o, o < 42 → mL (wL M1 (bO α p (2 + q)) m v) (bO α p o) (m - 1) = mL MB (bO α p o) (m - 1) ∨ m = 0 := fun o ho => by
    by_cases z : m = 0
    · exact .inr z
    · refine .inl (Eq.trans ?_ (g3 o ho (m - 1) (by omega)))
      by_cases y : o = 2 + q
      · subst y; exact wL_k (by omega)
      · exact congrFun (wL_a (bk_n hb ho (by omega) y)) _
  refine ⟨fun Mx gx => ?_, fun x hx => ?_, ?_, fun h12 x hx => ?_, f2⟩
  · have bx : BX τ α p MB Mx := BX.ba BX.rf hw hws.1 hp (bk_ba (f2.tr gx))
    have pe := pe_of (bx.ws hp hws) (bx.wt hw hws.1 hp hwt) hw hp
    refine ⟨⟨pe.1, fun k hk => (pe.2.1 k hk).trans (congrArg nI ?_), fun k hk => (pe.2.2 k hk).trans (congrArg nI ?_)⟩, fun x hx => ?_⟩
    · unfold stN lastO
      rw [has, un_e (h30 36 (by decide))]
    · unfold ptN lastO
      rw [has, un_e (h30 37 (by decide))]
    · have pq := pq_of (bx.ws hp hws) (bx.wt hw hws.1 hp hwt) hw hx
      refine ⟨pq.1, fun k hk => (pq.2.1 k hk).trans (congrArg nI ?_), fun k hk => (pq.2.2.1 k hk).trans (congrArg nI ?_), fun s hs => (pq.2.2.2 s hs).u (h30 33 (by decide)) (h30 34 (by decide)) (h30 35 (by decide))⟩
      · unfold crN lastO
        rw [has, un_e (h30 31 (by decide))]
      · unfold ceilN lastO
        rw [has, un_e (h30 32 (by decide))]
  · by_cases e : x = q
    · subst e; rw [← hv]; exact wL_i
    · rw [gfS_go (by omega)]
      exact (congrFun (wL_a (bk_n hb (by omega) (by omega) (by omega))) m).trans (g5 x hx e)
  · rw [u_ho vn.1]
    show mI M1 (bO α p 36) m = _
    rw [g2]; exact (bf.1 m hm).2.1
  · have hm0 : m ≠ 0 := fun z => h12 (by rw [z])
    have e : ∀ o, o < 42 → mL (wL M1 (bO α p (2 + q)) m v) (bO α p o) (m - 1) = mL MB (bO α p o) (m - 1) := fun o ho => (eo o ho).resolve_right hm0
    obtain ⟨_, _, _, a4, a5, a6, a7⟩ := (bf.1 (m - 1) (by omega)).1.1 x hx
    rw [e (14 + x) (by omega), e (18 + x) (by omega), e (22 + x) (by omega), e (26 + x) (by omega), a4, a5, a6, a7, vn.gy hx (by omega), vn.cy hx _ (by omega), vn.ty hx (by omega), vn.du (show m - 1 < m by omega) hx]
    have e1 : m / 12 = (m - 1) / 12 := by omega
    have e2 : m % 12 = (m - 1) % 12 + 1 := by omega
    have e3 : (m - 1) / 12 * 12 + (m - 1) % 12 = m - 1 := by omega
    rw [e1, e2]
    refine ⟨?_, rfl, ?_, rfl⟩
    · show _ = gY τ p x ((m - 1) / 12) ((m - 1) % 12) + grL τ p ((m - 1) / 12 * 12 + (m - 1) % 12) x
      rw [e3]
    · show _ = txY τ p x ((m - 1) / 12) ((m - 1) % 12) + txL τ p ((m - 1) / 12 * 12 + (m - 1) % 12) x
      rw [e3]
theorem gf_post (hws : WS τ G α MB) (hp : p < 6) (hq : q < 3) (g : GI τ α p m q i MB M1) (f : frm (BkA (bO α p)) (wL M1 (bO α p (2 + q)) m v) M3) (mi : mI M3 = mI (wL M1 (bO α p (2 + q)) m v)) (bk : BkR (gfS τ (72 * p + 3 * m + q) j) p (mL M3) (bO α p) m) (ok : ∀ o, o < 42 → ∀ k, k ≠ m → mL M3 (bO α p o) k = mL (wL M1 (bO α p (2 + q)) m v) (bO α p o) k) (ox : ∀ o, 29 ≤ o → o < 42 → o ≠ 37 → o ≠ 38 → o ≠ 39 → mL M3 (bO α p o) = mL (wL M1 (bO α p (2 + q)) m v) (bO α p o)) : GI τ α p m q j MB M3 := by
  obtain ⟨g1, g2, g3, g4, g5, g6⟩ := g
  have hb := hws.bk hp
  have f2 : frm (BkA (bO α p)) MB (wL M1 (bO α p (2 + q)) m v) := g1.wl _ _ ⟨2 + q, by omega, by omega, rfl⟩
  refine ⟨f2.tr f, mi.trans g2, fun o ho k hk => (ok o ho k hk).trans (Eq.trans ?_ (g3 o ho k hk)), fun o h1 h2 h3 h4 h5 => (ox o h1 h2 h3 h4 h5).trans (Eq.trans (wL_a (bk_n hb (by omega) (by omega) (by omega))) (g4 o h1 h2 h3 h4 h5)), fun x hx e => (bk.1 x hx).1.trans (gfS_go (by omega)), bk.2.2.2⟩
  by_cases y : o = 2 + q
  · subst y; exact wL_k hk
  · exact congrFun (wL_a (bk_n hb ho (by omega) y)) _
theorem gf_bf (hw : WF τ) (hws : WS τ G α MB) (bf : BF τ p α MB) (hp : p < 6) (g : GI τ α p m q 0 MB M1) (bk : BkR τ p (mL M1) (bO α p) m) : BF τ p α M1 := by
  obtain ⟨g1, g2, g3, g4, g5, g6⟩ := g
  have h9 := hw.nc.2
  have h44 := hw.ng.2
  obtain ⟨b1, b2, b3, b4⟩ := bf
  have no : ∀ k, LV τ k → ¬ (44 + 57 * p ≤ k ∧ k < 86 + 57 * p) → ¬ BkA (bO α p) (α k) := fun k hk hn => by
    rintro ⟨o, h1, h2, e⟩
    have := hws.1 _ _ hk (lv_b hp h2) e
    omega
  refine ⟨fun k hk => ?_, fun x hx y k hk => ?_, fun c hc y => ?_, fun k hk y => ?_⟩
  · obtain ⟨c1, c2, c3, c4, c5⟩ := b1 k hk
    refine ⟨?_, by rw [g2]; exact c2, fun e he => ?_, ?_, ?_⟩
    · by_cases e : k = m
      · subst e; exact bk
      · exact c1.cg fun o _ ho => g3 o (by omega) k e
    · rw [g4 (30 + e) (by omega) (by omega) (by omega) (by omega) (by omega)]; exact c3 e he
    · rw [g4 40 (by decide) (by decide) (by decide) (by decide) (by decide)]; exact c4
    · rw [g4 41 (by decide) (by decide) (by decide) (by decide) (by decide)]; exact c5
  · rw [show mL M1 (aO α x 1) = mL MB (aO α x 1) from g1.l (no _ (lv_a hx (by decide)) (by omega))]
    exact b2 x hx y k hk
  · have hn : ∀ o, o < 10 → ¬ BkA (bO α p) (cO α c o) := fun o ho => no _ (lv_c hc ho) (by omega)
    exact ⟨(b3 c hc y).1.fr g1 (hn 7 (by decide)) (hn 8 (by decide)), fun x hx => by rw [g1.l (hn 9 (by decide))]; exact (b3 c hc y).2 x hx⟩
  · rw [show mI M1 (lO α k) = mI MB (lO α k) from g1.i (no _ (lv_l hk) (by omega))]
    exact b4 k hk y
end Gf
theorem nt_lt {a : Int64} {w : Nat} (h : bdL a 1000000000000000) (h1 : 1 ≤ w) (h2 : w ≤ 1000000) : ¬ (a + lN w) ≤ a := by
  rw [Int64.le_iff_toInt_le, bd_addI h (bd_lN h2 (by decide)) (by decide), pk_lT (by omega)]
  omega

