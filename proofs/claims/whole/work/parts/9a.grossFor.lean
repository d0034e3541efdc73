/-! grossFor -/
def gfS (τ : Mu) (A i : Nat) : Mu := if i = 0 then τ else sI τ 30 A (τ.1 30 A + nI (10000 * i))
theorem gfS_1 {τ : Mu} {A i k : Nat} (h : k ≠ 30) : (gfS τ A i).1 k = τ.1 k := by
  unfold gfS
  split
  · rfl
  · exact sI_r h
theorem gfS_2 {τ : Mu} {A i : Nat} : (gfS τ A i).2 = τ.2 := by
  unfold gfS
  split <;> rfl
theorem gfS_o {τ : Mu} {A i x : Nat} (h : x ≠ A) : (gfS τ A i).1 30 x = τ.1 30 x := by
  unfold gfS
  split
  · rfl
  · exact sI_k h
theorem gfS_w {τ : Mu} (hw : WF τ) (hbo : BO τ) {A i : Nat} (hA : A < 432) (hi : i ≤ 200) : WF (gfS τ A i) := by
  unfold gfS
  split
  · exact hw
  · have b := hbo A hA
    have c := bo_add b.1 b.2 (show 10000 * i ≤ 2000000 by omega)
    exact wf_bonus hw c.1 c.2
theorem bo_64 {b : Int32} {n : Nat} (h1 : -10000000 ≤ b.toInt) (h2 : b.toInt ≤ 10000000) (hn : n ≤ 2000000) : (b + nI n).toInt64 = b.toInt64 + lN n := by
  apply Int64.toInt_inj.mp
  rw [Int32.toInt_toInt64, Int32.toInt_add, nI_toInt (by omega), Int64.toInt_add, Int32.toInt_toInt64, pk_lT (by omega), Int.bmod_eq_of_le (by omega) (by omega), Int.bmod_eq_of_le (by omega) (by omega)]
theorem gfS_g {τ : Mu} (hbo : BO τ) {p m q i : Nat} (hp : p < 6) (hm : m < 24) (hq : q < 3) (hi : i ≤ 200) : grL (gfS τ (72 * p + 3 * m + q) i) p m q = grL τ p m q + lN (10000 * i) := by
  unfold gfS
  by_cases e : i = 0
  · rw [if_pos e, e, show lN (10000 * 0) = 0 from rfl, Int64.add_zero]
  · rw [if_neg e]
    have h30 : ∀ k, k < 30 → (sI τ 30 (72 * p + 3 * m + q) (τ.1 30 (72 * p + 3 * m + q) + nI (10000 * i))).1 k = τ.1 k := fun k hk => sI_r (by omega)
    have b := hbo (72 * p + 3 * m + q) (by omega)
    unfold grL boL
    rw [sI_s, bo_64 b.1 b.2 (by omega), u_gb h30, u_ho h30, u_gE h30, un_e (h30 9 (by decide)), un_e (h30 26 (by decide))]
    ac_rfl
theorem gfS_go {τ : Mu} {p m q' i A : Nat} (h : 72 * p + 3 * m + q' ≠ A) : grL (gfS τ A i) p m q' = grL τ p m q' := u_gr (fun k hk => gfS_1 (by omega)) (gfS_o h)
theorem gfS_v {τ : Mu} {p m q i : Nat} (hq : q < 3) : VN m p τ (gfS τ (72 * p + 3 * m + q) i) := ⟨fun k hk => gfS_1 (by omega), fun k h1 h2 => gfS_1 (by omega), fun k h1 h2 => gfS_1 (by omega), fun j x hj hx => gfS_o (by omega), fun j _ => congrFun (gfS_1 (by decide)) _, fun j _ => congrFun (gfS_1 (by decide)) _, fun j _ => by rw [gfS_2]⟩
theorem gf_yes {τ : Mu} {A p m i : Nat} {due : Int64} (h1 : 1 ≤ i) (h2 : i ≤ 200) (hno : ∀ k, k + 1 < i → gfB τ A p m due k = false) (h : due ≤ ntL (gfS τ A i) p m) : gfO τ A p m due = nI (10000 * i) := by
  obtain ⟨j, rfl⟩ : ∃ j, i = j + 1 := ⟨i - 1, by omega⟩
  unfold gfO
  rw [fst_some (j := j) (f := gfB τ A p m due) (by
    unfold gfB
    unfold gfS at h
    rw [if_neg (by omega)] at h
    exact decide_eq_true h) (fun k hk => hno k (by omega)) (by omega)]
theorem gf_no {τ : Mu} {A p m : Nat} {due : Int64} (hno : ∀ k, k + 1 < 200 → gfB τ A p m due k = false) (h : ¬ due ≤ ntL (gfS τ A 200) p m) : gfO τ A p m due = -1 := by
  unfold gfO
  rw [fst_none (fun k hk => by
    by_cases e : k = 199
    · subst e
      unfold gfB
      unfold gfS at h
      rw [if_neg (by decide)] at h
      exact decide_eq_false h
    · exact hno k (by omega))]
/-- grossFor's work on a book -/
def GI (τ : Mu) (α : Nat → Nat) (p m q i : Nat) (MB M1 : Mem) : Prop := frm (BkA (bO α p)) MB M1 ∧ mI M1 = mI MB ∧ (∀ o, o < 42 → ∀ k, k ≠ m → mL M1 (bO α p o) k = mL MB (bO α p o) k) ∧ (∀ o, 29 ≤ o → o < 42 → o ≠ 37 → o ≠ 38 → o ≠ 39 → mL M1 (bO α p o) = mL MB (bO α p o)) ∧ (∀ x, x < 3 → x ≠ q → mL M1 (bO α p (2 + x)) m = grL τ p m x) ∧ mL M1 (bO α p 39) m = ntL (gfS τ (72 * p + 3 * m + q) i) p m
theorem GI.of {τ : Mu} {α : Nat → Nat} {p m q : Nat} {MB : Mem} (hm : m < 24) (bf : BF τ p α MB) : GI τ α p m q 0 MB MB :=
  ⟨frm.rf _ _, rfl, fun _ _ _ _ => rfl, fun _ _ _ _ _ _ => rfl, fun x hx _ => ((bf.1 m hm).1.1 x hx).1, (bf.1 m hm).1.2.2.2⟩
section Gf
variable {τ : Mu} {G : gW} {α : Nat → Nat} {p m q i j : Nat} {MB M1 M3 : Mem} {v : Int64}
theorem gf_pre (hw : WF τ) (hbo : BO τ) (hws : WS τ G α MB) (hwt : WT τ α MB) (bf : BF τ p α MB) (hp : p < 6) (hm : m < 24) (hq : q < 3) (hj : j ≤ 200) (g : GI τ α p m q i MB M1) (hv : v = grL (gfS τ (72 * p + 3 * m + q) j) p m q) :
    (∀ Mx : Mem, frm (BkA (bO α p)) (wL M1 (bO α p (2 + q)) m v) Mx → PeT (gfS τ (72 * p + 3 * m + q) j) p Mx (hO α p) ∧ ∀ x, x < 3 → PlT (gfS τ (72 * p + 3 * m + q) j) x Mx (gO α x)) ∧ (∀ x, x < 3 → mL (wL M1 (bO α p (2 + q)) m v) (bO α p (2 + x)) m = grL (gfS τ (72 * p + 3 * m + q) j) p m x) ∧ mI (wL M1 (bO α p (2 + q)) m v) (bO α p 36) m = nI (homeN (gfS τ (72 * p + 3 * m + q) j) p m) ∧
    (m % 12 ≠ 0 → ∀ x, x < 3 → mL (wL M1 (bO α p (2 + q)) m v) (bO α p (14 + x)) (m - 1) = gY (gfS τ (72 * p + 3 * m + q) j) p x (m / 12) (m % 12) ∧ mL (wL M1 (bO α p (2 + q)) m v) (bO α p (18 + x)) (m - 1) = ctY (gfS τ (72 * p + 3 * m + q) j) p x (m / 12) (m % 12) ∧ mL (wL M1 (bO α p (2 + q)) m v) (bO α p (22 + x)) (m - 1) = txY (gfS τ (72 * p + 3 * m + q) j) p x (m / 12) (m % 12) ∧ mL (wL M1 (bO α p (2 + q)) m v) (bO α p (26 + x)) (m - 1) = duL (gfS τ (72 * p + 3 * m + q) j) p (m - 1) x) ∧ frm (BkA (bO α p)) MB (wL M1 (bO α p (2 + q)) m v) := by
  obtain ⟨g1, g2, g3, g4, g5, g6⟩ := g
  have hb := hws.bk hp
  have f2 : frm (BkA (bO α p)) MB (wL M1 (bO α p (2 + q)) m v) := g1.wl _ _ ⟨2 + q, by omega, by omega, rfl⟩
  have vn := gfS_v (τ := τ) (p := p) (m := m) (i := j) hq
  have h30 : ∀ k, k ≠ 30 → (gfS τ (72 * p + 3 * m + q) j).1 k = τ.1 k := fun k hk => gfS_1 hk
  have has : ∀ r a, hasB (gfS τ (72 * p + 3 * m + q) j) r a = hasB τ r a := fun r a => by
    funext k
    unfold hasB
    rw [h30 31 (by decide), h30 36 (by decide), h30 37 (by decide), un_e (h30 33 (by decide))]
  have eo : ∀ o, o < 42 → mL (wL M1 (bO α p (2 + q)) m v) (bO α p o) (m - 1) = mL MB (bO α p o) (m - 1) ∨ m = 0 := fun o ho => by
    by_cases z : m = 0
    · exact .inr z
    · refine .inl (Eq.trans ?_ (g3 o ho (m - 1) (by omega)))
      by_cases y : o = 2 + q
      · subst y; exact wL_k (by omega)
      · exact congrFun (wL_a (bk_n hb ho (by omega) y)) _
  refine ⟨fun Mx gx => ?_, fun x hx => ?_, ?_, fun h12 x hx => ?_, f2⟩
  · have bx : BX τ α p MB Mx := BX.ba BX.rf hw hws.1 hp (bk_ba (f2.tr gx))
    have pe := pe_of (bx.ws hp hws) (bx.wt hw hws.1 hp hwt) hw hp
    refine ⟨⟨pe.1, fun k hk => (pe.2.1 k hk).trans (congrArg nI ?_), fun k hk => (pe.2.2 k hk).trans (congrArg nI ?_)⟩, fun x hx => ?_⟩
    · unfold stN lastO
      rw [has, un_e (h30 36 (by decide))]
    · unfold ptN lastO
      rw [has, un_e (h30 37 (by decide))]
    · have pq := pq_of (bx.ws hp hws) (bx.wt hw hws.1 hp hwt) hw hx
      refine ⟨pq.1, fun k hk => (pq.2.1 k hk).trans (congrArg nI ?_), fun k hk => (pq.2.2.1 k hk).trans (congrArg nI ?_), fun s hs => (pq.2.2.2 s hs).u (h30 33 (by decide)) (h30 34 (by decide)) (h30 35 (by decide))⟩
      · unfold crN lastO
        rw [has, un_e (h30 31 (by decide))]
      · unfold ceilN lastO
        rw [has, un_e (h30 32 (by decide))]
  · by_cases e : x = q
    · subst e; rw [← hv]; exact wL_i
    · rw [gfS_go (by omega)]
      exact (congrFun (wL_a (bk_n hb (by omega) (by omega) (by omega))) m).trans (g5 x hx e)
  · rw [u_ho vn.1]
    show mI M1 (bO α p 36) m = _
    rw [g2]; exact (bf.1 m hm).2.1
  · have hm0 : m ≠ 0 := fun z => h12 (by rw [z])
    have e : ∀ o, o < 42 → mL (wL M1 (bO α p (2 + q)) m v) (bO α p o) (m - 1) = mL MB (bO α p o) (m - 1) := fun o ho => (eo o ho).resolve_right hm0
    obtain ⟨_, _, _, a4, a5, a6, a7⟩ := (bf.1 (m - 1) (by omega)).1.1 x hx
    rw [e (14 + x) (by omega), e (18 + x) (by omega), e (22 + x) (by omega), e (26 + x) (by omega), a4, a5, a6, a7, vn.gy hx (by omega), vn.cy hx _ (by omega), vn.ty hx (by omega), vn.du (show m - 1 < m by omega) hx]
    have e1 : m / 12 = (m - 1) / 12 := by omega
    have e2 : m % 12 = (m - 1) % 12 + 1 := by omega
    have e3 : (m - 1) / 12 * 12 + (m - 1) % 12 = m - 1 := by omega
    rw [e1, e2]
    refine ⟨?_, rfl, ?_, rfl⟩
    · show _ = gY τ p x ((m - 1) / 12) ((m - 1) % 12) + grL τ p ((m - 1) / 12 * 12 + (m - 1) % 12) x
      rw [e3]
    · show _ = txY τ p x ((m - 1) / 12) ((m - 1) % 12) + txL τ p ((m - 1) / 12 * 12 + (m - 1) % 12) x
      rw [e3]
theorem gf_post (hws : WS τ G α MB) (hp : p < 6) (hq : q < 3) (g : GI τ α p m q i MB M1) (f : frm (BkA (bO α p)) (wL M1 (bO α p (2 + q)) m v) M3) (mi : mI M3 = mI (wL M1 (bO α p (2 + q)) m v)) (bk : BkR (gfS τ (72 * p + 3 * m + q) j) p (mL M3) (bO α p) m) (ok : ∀ o, o < 42 → ∀ k, k ≠ m → mL M3 (bO α p o) k = mL (wL M1 (bO α p (2 + q)) m v) (bO α p o) k) (ox : ∀ o, 29 ≤ o → o < 42 → o ≠ 37 → o ≠ 38 → o ≠ 39 → mL M3 (bO α p o) = mL (wL M1 (bO α p (2 + q)) m v) (bO α p o)) : GI τ α p m q j MB M3 := by
  obtain ⟨g1, g2, g3, g4, g5, g6⟩ := g
  have hb := hws.bk hp
  have f2 : frm (BkA (bO α p)) MB (wL M1 (bO α p (2 + q)) m v) := g1.wl _ _ ⟨2 + q, by omega, by omega, rfl⟩
  refine ⟨f2.tr f, mi.trans g2, fun o ho k hk => (ok o ho k hk).trans (Eq.trans ?_ (g3 o ho k hk)), fun o h1 h2 h3 h4 h5 => (ox o h1 h2 h3 h4 h5).trans (Eq.trans (wL_a (bk_n hb (by omega) (by omega) (by omega))) (g4 o h1 h2 h3 h4 h5)), fun x hx e => (bk.1 x hx).1.trans (gfS_go (by omega)), bk.2.2.2⟩
  by_cases y : o = 2 + q
  · subst y; exact wL_k hk
  · exact congrFun (wL_a (bk_n hb ho (by omega) y)) _
theorem gf_bf (hw : WF τ) (hws : WS τ G α MB) (bf : BF τ p α MB) (hp : p < 6) (g : GI τ α p m q 0 MB M1) (bk : BkR τ p (mL M1) (bO α p) m) : BF τ p α M1 := by
  obtain ⟨g1, g2, g3, g4, g5, g6⟩ := g
  have h9 := hw.nc.2
  have h44 := hw.ng.2
  obtain ⟨b1, b2, b3, b4⟩ := bf
  have no : ∀ k, LV τ k → ¬ (44 + 57 * p ≤ k ∧ k < 86 + 57 * p) → ¬ BkA (bO α p) (α k) := fun k hk hn => by
    rintro ⟨o, h1, h2, e⟩
    have := hws.1 _ _ hk (lv_b hp h2) e
    omega
  refine ⟨fun k hk => ?_, fun x hx y k hk => ?_, fun c hc y => ?_, fun k hk y => ?_⟩
  · obtain ⟨c1, c2, c3, c4, c5⟩ := b1 k hk
    refine ⟨?_, by rw [g2]; exact c2, fun e he => ?_, ?_, ?_⟩
    · by_cases e : k = m
      · subst e; exact bk
      · exact c1.cg fun o _ ho => g3 o (by omega) k e
    · rw [g4 (30 + e) (by omega) (by omega) (by omega) (by omega) (by omega)]; exact c3 e he
    · rw [g4 40 (by decide) (by decide) (by decide) (by decide) (by decide)]; exact c4
    · rw [g4 41 (by decide) (by decide) (by decide) (by decide) (by decide)]; exact c5
  · rw [show mL M1 (aO α x 1) = mL MB (aO α x 1) from g1.l (no _ (lv_a hx (by decide)) (by omega))]
    exact b2 x hx y k hk
  · have hn : ∀ o, o < 10 → ¬ BkA (bO α p) (cO α c o) := fun o ho => no _ (lv_c hc ho) (by omega)
    exact ⟨(b3 c hc y).1.fr g1 (hn 7 (by decide)) (hn 8 (by decide)), fun x hx => by rw [g1.l (hn 9 (by decide))]; exact (b3 c hc y).2 x hx⟩
  · rw [show mI M1 (lO α k) = mI MB (lO α k) from g1.i (no _ (lv_l hk) (by omega))]
    exact b4 k hk y
end Gf
theorem nt_lt {a : Int64} {w : Nat} (h : bdL a 1000000000000000) (h1 : 1 ≤ w) (h2 : w ≤ 1000000) : ¬ (a + lN w) ≤ a := by
  rw [Int64.le_iff_toInt_le, bd_addI h (bd_lN h2 (by decide)) (by decide), pk_lT (by omega)]
  omega

set_option maxHeartbeats 1000000 in
set_option maxRecDepth 100000 in
theorem c_X11_grossFor (l : Launch) (hfl : l.flags = flags0) (G : gW) (M : Mem) (τ : Mu) (hw : WF τ) (α : Nat → Nat) (hws : WS τ G α M) (hwt : WT τ α M) (hwb : WB τ α M) (had : ∀ p, p < 6 → AD τ p) (x y z w : Int32) (hbo : BO τ) : CX l yX11_grossFor cX11_grossFor 12 (some .int) 7 2 12 188 G M [.ref (α 0), .int x, .int y, .int z, .int w] (fun v M' => PC τ G α M (cd2 (rng x 6 && rng y 24 && rng z 3) (inB w (lN 1) (lN 1000000))) (τ) (some (.int (gfO τ (72 * x.toNatClampNeg + 3 * y.toNatClampNeg + z.toNatClampNeg) x.toNatClampNeg y.toNatClampNeg (ntL τ x.toNatClampNeg y.toNatClampNeg + lN w.toNatClampNeg)))) v M') (fun E M' => XP M (cd2 (rng x 6 && rng y 24 && rng z 3) (inB w (lN 1) (lN 1000000))) ["java/lang/IndexOutOfBoundsException", "java/lang/IllegalArgumentException"] E M') := by
  refine CX.of hfl rfl (Nat.le_of_ble_eq_true rfl) ?_
  intro pp ee ss mm ar bw mt cd C hgX hr hno
  have hx := hws.2.1
  have hwx := hwt.2.2.2.1
  have h9 := hw.nc.2
  have h13 := hw.sh.2
  have h17 := hw.nl.2
  have h26 := hw.ne.2
  have h44 := hw.ng.2
  have h46 := hw.op.2
  have h51 := hw.np.2
  refine V.eLo (lo' := [(0, .ref (α 0)), (1, .int x), (2, .int y), (3, .int z), (4, .int w)]) rfl ?_
  have jn26 : V pp l ee ({ frames := 7, cells := 2, slots := 12, locals := 188 } : Room) ss mm ar bw mt cd G (vx_MQ bw (Ke G (fun v M' => PC τ G α M (cd2 (rng x 6 && rng y 24 && rng z 3) (inB w (lN 1) (lN 1000000))) (τ) (some (.int (gfO τ (72 * x.toNatClampNeg + 3 * y.toNatClampNeg + z.toNatClampNeg) x.toNatClampNeg y.toNatClampNeg (ntL τ x.toNatClampNeg y.toNatClampNeg + lN w.toNatClampNeg)))) v M')) (Kx G (fun E M' => XP M (cd2 (rng x 6 && rng y 24 && rng z 3) (inB w (lN 1) (lN 1000000))) ["java/lang/IndexOutOfBoundsException", "java/lang/IllegalArgumentException"] E M')) ar ss 2 12 (gA G)) 12 M 0 0 26 [(0, .ref (α 0)), (1, .int x), (2, .int y), (3, .int z), (4, .int w)] [.int (bI (rng x 6 && rng y 24 && rng z 3))] := by
    skip
    refine r_xS C hgX hno ml_X11_55 st_X11_needThere (c_X11_needThere l hfl G M (rng x 6 && rng y 24 && rng z 3)) rfl (Nat.le_of_ble_eq_true rfl) ⟨Nat.le_of_ble_eq_true rfl, Nat.le_of_ble_eq_true rfl⟩ ⟨Nat.le_of_ble_eq_true rfl, Nat.le_of_ble_eq_true rfl⟩ dX11_grossFor_26 rfl (fun E_ M_ h_ => x_2a h_) ⟨Nat.le_of_ble_eq_true rfl, Nat.le_of_ble_eq_true rfl⟩ ?_
    rintro _ _ ⟨rfl, rfl, hq1⟩
    have hq_ := hq1
    refine r_iload C 4 dX11_grossFor_29 rfl ?_
    refine r_iconst C (v := nI 1) dX11_grossFor_31 (by decide) ?_
    refine r_ldc C (v := 1000000) ki_X11_63 dX11_grossFor_32 ?_
    refine V.ei (y := nI 1000000) (by decide) ?_
    refine r_callS C hgX ml_X11_59 st_X11_isWithin (c_X11_isWithin l hfl G M w (nI 1) (nI 1000000)) rfl (Nat.le_of_ble_eq_true rfl) ⟨Nat.le_of_ble_eq_true rfl, Nat.le_of_ble_eq_true rfl⟩ ⟨Nat.le_of_ble_eq_true rfl, Nat.le_of_ble_eq_true rfl⟩ dX11_grossFor_34 rfl ?_
    rintro _ _ ⟨rfl, rfl⟩
    refine V.eSt (st' := [.int (bI (inB w (nI 1).toInt64 (nI 1000000).toInt64))]) rfl ?_
    refine V.ei (y := bI (inB w (lN 1) (lN 1000000))) rfl ?_
    refine r_xS C hgX hno ml_X11_64 st_X11_needFitting (c_X11_needFitting l hfl G M (inB w (lN 1) (lN 1000000))) rfl (Nat.le_of_ble_eq_true rfl) ⟨Nat.le_of_ble_eq_true rfl, Nat.le_of_ble_eq_true rfl⟩ ⟨Nat.le_of_ble_eq_true rfl, Nat.le_of_ble_eq_true rfl⟩ dX11_grossFor_37 rfl (fun E_ M_ h_ => x_2b hq_ h_) ⟨Nat.le_of_ble_eq_true rfl, Nat.le_of_ble_eq_true rfl⟩ ?_
    rintro _ _ ⟨rfl, rfl, hq2⟩
    have hq2 := hq2
    obtain ⟨hqa, hqb⟩ := Bool.and_eq_true_iff.mp hq_
    obtain ⟨hqa, hqc⟩ := Bool.and_eq_true_iff.mp hqa
    obtain ⟨p, hp, e_x⟩ := rng_t hqa
    obtain ⟨m, hm, e_y⟩ := rng_t hqc
    obtain ⟨q, hq, e_z⟩ := rng_t hqb
    obtain ⟨ww, hw1, hw2, e_w⟩ := inB_N (by decide) (by decide) hq2
    refine V.eLo (lo' := [(0, .ref (α 0)), (1, .int (nI p)), (2, .int (nI m)), (3, .int (nI q)), (4, .int (nI ww))]) (by rw [e_x, e_y, e_z, e_w]) ?_
    refine r_aload_n C 0 dX11_grossFor_40 rfl rfl ?_
    refine r_iload_n C 1 dX11_grossFor_41 rfl rfl ?_
    refine r_callV C hgX (ci := 13) ml_X11_144 im_X11_bookOf se_X11_bookOf rfl rfl (hx.k 0 14 rfl) (c_X11_bookOf l hfl G M τ hw α hws hwt hwb had p hp) rfl (Nat.le_of_ble_eq_true rfl) ⟨Nat.le_of_ble_eq_true rfl, Nat.le_of_ble_eq_true rfl⟩ ⟨Nat.le_of_ble_eq_true rfl, Nat.le_of_ble_eq_true rfl⟩ dX11_grossFor_42 rfl ?_
    rintro _ My3 ⟨rfl, hbx3, hws3, hwt3, hwb3, hbz3⟩
    refine V.eSt (st' := [.ref (bO α p 0)]) rfl ?_
    have hbf := hwb3.2 _ hp hbz3
    have hbk := hws3.bk hp
    have hx := hws3.2.1
    have hwsB := hws3
    have hbkB := hbk
    have hwtB := hwt3
    have hntb := ntL_bd hw hp hm
    refine r_astore C (lo' := [(5, .ref (bO α p 0)), (0, .ref (α 0)), (1, .int (nI p)), (2, .int (nI m)), (3, .int (nI q)), (4, .int (nI ww))]) dX11_grossFor_45 (by decide) rfl ?_
    refine r_aload C 0 dX11_grossFor_47 rfl ?_
    refine r_getR C (b := (bO α p 39)) fl_X11_271 rfl (hbk.k 0 4 rfl) (hbk.r 0 12 39 rfl) dX11_grossFor_49 ?_
    refine r_iload_n C 3 dX11_grossFor_52 rfl rfl ?_
    refine r_laloadN C (hbk.k 39 21 rfl) (hbk.n 39 24 rfl) (by omega) (by omega) dX11_grossFor_53 ?_
    refine V.el (y := ntL τ p m) ((hbf.1 m hm).1.2.2.2) ?_
    refine r_iload C 5 dX11_grossFor_54 rfl ?_
    refine r_i2lN C (by omega) dX11_grossFor_56 ?_
    refine r_ladd C dX11_grossFor_57 ?_
    refine r_lstore C (lo' := [(6, .long ((ntL τ p m) + (lN ww))), (5, .ref (bO α p 0)), (0, .ref (α 0)), (1, .int (nI p)), (2, .int (nI m)), (3, .int (nI q)), (4, .int (nI ww))]) dX11_grossFor_58 (by decide) rfl ?_
    refine r_aload C 1 dX11_grossFor_60 rfl ?_
    refine r_getR C (b := (bO α p 1)) fl_X11_275 rfl (hbk.k 0 4 rfl) (hbk.r 0 1 1 rfl) dX11_grossFor_62 ?_
    refine r_iload_n C 5 dX11_grossFor_65 rfl rfl ?_
    refine r_aaloadN C (b := (bO α p (2 + q))) 5 (by decide) (hbk.k 1 28 rfl) (hbk.n 1 3 rfl) (by omega) (by omega) (hbk.ro 1 2 3 1 rfl q (by omega)) dX11_grossFor_66 ?_
    refine r_iload_n C 4 dX11_grossFor_67 rfl rfl ?_
    refine r_laloadN C (hbk.ko 2 21 3 rfl q (by omega)) (hbk.no 2 24 3 rfl q (by omega)) (by omega) (by omega) dX11_grossFor_68 ?_
    refine V.el (y := grL τ p m q) (((hbf.1 m hm).1.1 q hq).1) ?_
    refine r_lstore C (lo' := [(8, .long (grL τ p m q)), (6, .long ((ntL τ p m) + (lN ww))), (5, .ref (bO α p 0)), (0, .ref (α 0)), (1, .int (nI p)), (2, .int (nI m)), (3, .int (nI q)), (4, .int (nI ww))]) dX11_grossFor_69 (by decide) rfl ?_
    refine r_iconst C (v := nI 0) dX11_grossFor_71 (by decide) ?_
    refine V.ei (y := nI (10000 * 0)) (rfl) ?_
    refine r_istore C (lo' := [(10, .int (nI (10000 * 0))), (8, .long (grL τ p m q)), (6, .long ((ntL τ p m) + (lN ww))), (5, .ref (bO α p 0)), (0, .ref (α 0)), (1, .int (nI p)), (2, .int (nI m)), (3, .int (nI q)), (4, .int (nI ww))]) dX11_grossFor_72 (by decide) rfl ?_
    refine r_iconst C (v := nI 1) dX11_grossFor_74 (by decide) ?_
    refine r_istore C (lo' := [(11, .int (nI 1)), (10, .int (nI (10000 * 0))), (8, .long (grL τ p m q)), (6, .long ((ntL τ p m) + (lN ww))), (5, .ref (bO α p 0)), (0, .ref (α 0)), (1, .int (nI p)), (2, .int (nI m)), (3, .int (nI q)), (4, .int (nI ww))]) dX11_grossFor_75 (by decide) rfl ?_
    have lp77 : ∀ (k77 : Nat) (M1 : Mem) (i : Nat) (hi : i ≤ 200) (hGI : GI τ α p m q i My3 M1) (hno : ∀ k, k + 1 < i → gfB τ (72 * p + 3 * m + q) p m (ntL τ p m + lN ww) k = false), 201 - i < k77 → V pp l ee ({ frames := 7, cells := 2, slots := 12, locals := 188 } : Room) ss mm ar bw mt cd G (vx_MQ bw (Ke G (fun v M' => PC τ G α M (cd2 (rng x 6 && rng y 24 && rng z 3) (inB w (lN 1) (lN 1000000))) (τ) (some (.int (gfO τ (72 * x.toNatClampNeg + 3 * y.toNatClampNeg + z.toNatClampNeg) x.toNatClampNeg y.toNatClampNeg (ntL τ x.toNatClampNeg y.toNatClampNeg + lN w.toNatClampNeg)))) v M')) (Kx G (fun E M' => XP M (cd2 (rng x 6 && rng y 24 && rng z 3) (inB w (lN 1) (lN 1000000))) ["java/lang/IndexOutOfBoundsException", "java/lang/IllegalArgumentException"] E M')) ar ss 2 12 (gA G)) 12 M1 2 12 77 [(0, .ref (α 0)), (1, .int (nI p)), (2, .int (nI m)), (3, .int (nI q)), (5, .ref (bO α p 0)), (6, .long (ntL τ p m + lN ww)), (8, .long (grL τ p m q)), (10, .int (nI (10000 * i))), (11, .int (nI (i + 1)))] [] := by
      intro k77
      induction k77 with
      | zero => intro M1 i hi hGI hno hz77; exact absurd hz77 (Nat.not_lt_zero _)
      | succ k77 ih77 =>
        intro M1 i hi hGI hno hz77
        have hbk := hGI.1.blk hbk
        have hx := hGI.1.blk hx
        have hpl3 : ∀ q, q < 3 → mR M1 (α 3) q = some (gO α q 0) := fun q hq => by rw [hGI.1.2.2.1]; exact (hwsB.2.2.2.1 q hq).2
        have hpe2 : ∀ p, p < 6 → mR M1 (α 2) p = some (hO α p 0) := fun p hp => by rw [hGI.1.2.2.1]; exact (hwsB.2.2.1 p hp).2
        refine r_iload C 8 dX11_grossFor_77 rfl ?_
        refine r_sipush C (v := nI 200) dX11_grossFor_79 (by decide) ?_
        refine r_icmp_gtN C (t := 143) (by omega) (by omega) dX11_grossFor_82 (by decide) (fun c82 => ?_) (fun c82 => ?_)
        · skip
          have hi1 : 1 ≤ i := by omega
          refine r_aload C 4 dX11_grossFor_143 rfl ?_
          refine r_getR C (b := (bO α p 39)) fl_X11_271 rfl (hbk.k 0 4 rfl) (hbk.r 0 12 39 rfl) dX11_grossFor_145 ?_
          refine r_iload_n C 2 dX11_grossFor_148 rfl rfl ?_
          refine r_laloadN C (hbk.k 39 21 rfl) (hbk.n 39 24 rfl) (by omega) (by omega) dX11_grossFor_149 ?_
          refine V.el (y := ntL (gfS τ (72 * p + 3 * m + q) i) p m) (hGI.2.2.2.2.2) ?_
          refine r_lload C 5 dX11_grossFor_150 rfl ?_
          refine r_lcmp_lt C (t := 160) dX11_grossFor_152 dX11_grossFor_153 (by decide) (fun c153 => ?_) (fun c153 => ?_)
          · skip
            refine r_iconst C (v := nI 0) dX11_grossFor_160 (by decide) ?_
            refine r_istore C (lo' := [(11, .int (nI 0)), (0, .ref (α 0)), (1, .int (nI p)), (2, .int (nI m)), (3, .int (nI q)), (5, .ref (bO α p 0)), (6, .long (ntL τ p m + lN ww)), (8, .long (grL τ p m q)), (10, .int (nI (10000 * i)))]) dX11_grossFor_161 (by decide) rfl ?_
            refine r_aload C 5 dX11_grossFor_163 rfl ?_
            refine r_getR C (b := (bO α p 1)) fl_X11_275 rfl (hbk.k 0 4 rfl) (hbk.r 0 1 1 rfl) dX11_grossFor_165 ?_
            refine r_iload_n C 4 dX11_grossFor_168 rfl rfl ?_
            refine r_aaloadN C (b := (bO α p (2 + q))) 5 (by decide) (hbk.k 1 28 rfl) (hbk.n 1 3 rfl) (by omega) (by omega) (hbk.ro 1 2 3 1 rfl q (by omega)) dX11_grossFor_169 ?_
            refine r_iload_n C 3 dX11_grossFor_170 rfl rfl ?_
            refine r_lload C 7 dX11_grossFor_171 rfl ?_
            refine r_lastoreN C (hbk.ko 2 21 3 rfl q (by omega)) (hbk.no 2 24 3 rfl q (by omega)) (by omega) (by omega) dX11_grossFor_173 ?_
            refine r_aload C 5 dX11_grossFor_174 rfl ?_
            refine r_iload_n C 3 dX11_grossFor_176 rfl rfl ?_
            refine r_aload_n C 1 dX11_grossFor_177 rfl rfl ?_
            refine r_getR C (b := (α 2)) fl_X11_18 rfl (hx.k 0 14 rfl) (hx.r 0 1 2 rfl) dX11_grossFor_178 ?_
            refine r_iload_n C 2 dX11_grossFor_181 rfl rfl ?_
            refine r_aaloadN C (b := (hO α p 0)) 1 (by decide) (hx.k 2 24 rfl) (hx.n 2 6 rfl) (by omega) (by omega) (hpe2 p (by omega)) dX11_grossFor_182 ?_
            refine r_aload_n C 1 dX11_grossFor_183 rfl rfl ?_
            refine r_getR C (b := (α 3)) fl_X11_24 rfl (hx.k 0 14 rfl) (hx.r 0 2 3 rfl) dX11_grossFor_184 ?_
            have hpre := gf_pre (i := i) (j := 0) hw hbo hwsB hwtB hbf hp hm hq (by omega) hGI (v := grL τ p m q) rfl
            have hbkI := hpre.2.2.2.2.blk hbkB
            refine r_callV C hgX (ci := 3) ml_X11_278 im_X0_reckon se_X0_reckon rfl rfl (show mK (wL M1 (bO α p (2 + q)) m (grL τ p m q)) (bO α p 0) = 3 + 1 from (hbk.k 0 4 rfl)) (c_X0_reckon l hfl G (wL M1 (bO α p (2 + q)) m (grL τ p m q)) (bO α p) hbkI τ hw p m hp hm (hO α p) (α 3) (gO α) ⟨hx.k 3 25 rfl, hx.n 3 3 rfl, hpl3⟩ hpre.1 hpre.2.1 hpre.2.2.1 hpre.2.2.2.1) rfl (Nat.le_of_ble_eq_true rfl) ⟨Nat.le_of_ble_eq_true rfl, Nat.le_of_ble_eq_true rfl⟩ ⟨Nat.le_of_ble_eq_true rfl, Nat.le_of_ble_eq_true rfl⟩ dX11_grossFor_187 rfl ?_
            rintro _ My5 ⟨rfl, hfm5, hmi5, hbr5, hok5, hox5⟩
            have hGN := gf_post (j := 0) hwsB hp hq hGI hfm5 hmi5 hbr5 hok5 hox5
            have hBF := gf_bf hw hwsB hbf hp hGN hbr5
            have hbxN := hbx3.ba hw hws.1 hp (bk_ba hGN.1)
            refine r_iload C 0 dX11_grossFor_190 rfl ?_
            refine r_if_eqN C (t := 200) (by omega) dX11_grossFor_192 (by decide) (fun c192 => ?_) (fun c192 => ?_)
            · skip
              refine r_iconst C (v := (-1)) dX11_grossFor_200 (by decide) ?_
              refine V.xret ?_
              exact r_iret C hr (⟨k_2 hq_ hq2, by rw [e_x, e_y, e_z, e_w, nI_clamp (n := p) (by omega), nI_clamp (n := m) (by omega), nI_clamp (n := q) (by omega), nI_clamp (n := ww) (by omega)]; exact congrArg (fun z => some (Value.int z)) (gf_no (fun k hk => hno k (by omega)) (by rw [Int64.not_le]; have e : i = 200 := (by omega); subst e; exact c153)).symm, α, ⟨hbxN.ws hp hws, hbxN.wt hw hws.1 hp hwt, WB.bx hbxN hw hws.1 hp hwb hBF⟩, rfl, CF.bx hp hbxN, fun _ _ hz_ => hz_⟩) (by first | exact Nat.zero_le _ | decide) (by first | exact Nat.zero_le _ | decide) dX11_grossFor_201
            · exact absurd rfl c192
          · skip
            refine r_iconst C (v := nI 1) dX11_grossFor_156 (by decide) ?_
            refine r_goto C (t := 161) dX11_grossFor_157 (by decide) ?_
            refine r_istore C (lo' := [(11, .int (nI 1)), (0, .ref (α 0)), (1, .int (nI p)), (2, .int (nI m)), (3, .int (nI q)), (5, .ref (bO α p 0)), (6, .long (ntL τ p m + lN ww)), (8, .long (grL τ p m q)), (10, .int (nI (10000 * i)))]) dX11_grossFor_161 (by decide) rfl ?_
            refine r_aload C 5 dX11_grossFor_163 rfl ?_
            refine r_getR C (b := (bO α p 1)) fl_X11_275 rfl (hbk.k 0 4 rfl) (hbk.r 0 1 1 rfl) dX11_grossFor_165 ?_
            refine r_iload_n C 4 dX11_grossFor_168 rfl rfl ?_
            refine r_aaloadN C (b := (bO α p (2 + q))) 5 (by decide) (hbk.k 1 28 rfl) (hbk.n 1 3 rfl) (by omega) (by omega) (hbk.ro 1 2 3 1 rfl q (by omega)) dX11_grossFor_169 ?_
            refine r_iload_n C 3 dX11_grossFor_170 rfl rfl ?_
            refine r_lload C 7 dX11_grossFor_171 rfl ?_
            refine r_lastoreN C (hbk.ko 2 21 3 rfl q (by omega)) (hbk.no 2 24 3 rfl q (by omega)) (by omega) (by omega) dX11_grossFor_173 ?_
            refine r_aload C 5 dX11_grossFor_174 rfl ?_
            refine r_iload_n C 3 dX11_grossFor_176 rfl rfl ?_
            refine r_aload_n C 1 dX11_grossFor_177 rfl rfl ?_
            refine r_getR C (b := (α 2)) fl_X11_18 rfl (hx.k 0 14 rfl) (hx.r 0 1 2 rfl) dX11_grossFor_178 ?_
            refine r_iload_n C 2 dX11_grossFor_181 rfl rfl ?_
            refine r_aaloadN C (b := (hO α p 0)) 1 (by decide) (hx.k 2 24 rfl) (hx.n 2 6 rfl) (by omega) (by omega) (hpe2 p (by omega)) dX11_grossFor_182 ?_
            refine r_aload_n C 1 dX11_grossFor_183 rfl rfl ?_
            refine r_getR C (b := (α 3)) fl_X11_24 rfl (hx.k 0 14 rfl) (hx.r 0 2 3 rfl) dX11_grossFor_184 ?_
            have hpre := gf_pre (i := i) (j := 0) hw hbo hwsB hwtB hbf hp hm hq (by omega) hGI (v := grL τ p m q) rfl
            have hbkI := hpre.2.2.2.2.blk hbkB
            refine r_callV C hgX (ci := 3) ml_X11_278 im_X0_reckon se_X0_reckon rfl rfl (show mK (wL M1 (bO α p (2 + q)) m (grL τ p m q)) (bO α p 0) = 3 + 1 from (hbk.k 0 4 rfl)) (c_X0_reckon l hfl G (wL M1 (bO α p (2 + q)) m (grL τ p m q)) (bO α p) hbkI τ hw p m hp hm (hO α p) (α 3) (gO α) ⟨hx.k 3 25 rfl, hx.n 3 3 rfl, hpl3⟩ hpre.1 hpre.2.1 hpre.2.2.1 hpre.2.2.2.1) rfl (Nat.le_of_ble_eq_true rfl) ⟨Nat.le_of_ble_eq_true rfl, Nat.le_of_ble_eq_true rfl⟩ ⟨Nat.le_of_ble_eq_true rfl, Nat.le_of_ble_eq_true rfl⟩ dX11_grossFor_187 rfl ?_
            rintro _ My6 ⟨rfl, hfm6, hmi6, hbr6, hok6, hox6⟩
            have hGN := gf_post (j := 0) hwsB hp hq hGI hfm6 hmi6 hbr6 hok6 hox6
            have hBF := gf_bf hw hwsB hbf hp hGN hbr6
            have hbxN := hbx3.ba hw hws.1 hp (bk_ba hGN.1)
            refine r_iload C 0 dX11_grossFor_190 rfl ?_
            refine r_if_eqN C (t := 200) (by omega) dX11_grossFor_192 (by decide) (fun c192 => ?_) (fun c192 => ?_)
            · exact absurd c192 (by decide)
            · skip
              refine r_iload C 8 dX11_grossFor_195 rfl ?_
              refine r_goto C (t := 201) dX11_grossFor_197 (by decide) ?_
              refine V.xret ?_
              exact r_iret C hr (⟨k_2 hq_ hq2, by rw [e_x, e_y, e_z, e_w, nI_clamp (n := p) (by omega), nI_clamp (n := m) (by omega), nI_clamp (n := q) (by omega), nI_clamp (n := ww) (by omega)]; exact congrArg (fun z => some (Value.int z)) (gf_yes (i := i) hi1 hi hno (Int64.not_lt.mp c153)).symm, α, ⟨hbxN.ws hp hws, hbxN.wt hw hws.1 hp hwt, WB.bx hbxN hw hws.1 hp hwb hBF⟩, rfl, CF.bx hp hbxN, fun _ _ hz_ => hz_⟩) (by first | exact Nat.zero_le _ | decide) (by first | exact Nat.zero_le _ | decide) dX11_grossFor_201
        · skip
          refine r_aload C 4 dX11_grossFor_85 rfl ?_
          refine r_getR C (b := (bO α p 39)) fl_X11_271 rfl (hbk.k 0 4 rfl) (hbk.r 0 12 39 rfl) dX11_grossFor_87 ?_
          refine r_iload_n C 2 dX11_grossFor_90 rfl rfl ?_
          refine r_laloadN C (hbk.k 39 21 rfl) (hbk.n 39 24 rfl) (by omega) (by omega) dX11_grossFor_91 ?_
          refine V.el (y := ntL (gfS τ (72 * p + 3 * m + q) i) p m) (hGI.2.2.2.2.2) ?_
          refine r_lload C 5 dX11_grossFor_92 rfl ?_
          refine r_lcmp_ge C (t := 143) dX11_grossFor_94 dX11_grossFor_95 (by decide) (fun c95 => ?_) (fun c95 => ?_)
          · skip
            have hi1 : 1 ≤ i := by
              rcases Nat.eq_zero_or_pos i with z | z
              · subst z; exact absurd c95 (nt_lt hntb hw1 hw2)
              · exact z
            refine r_aload C 4 dX11_grossFor_143 rfl ?_
            refine r_getR C (b := (bO α p 39)) fl_X11_271 rfl (hbk.k 0 4 rfl) (hbk.r 0 12 39 rfl) dX11_grossFor_145 ?_
            refine r_iload_n C 2 dX11_grossFor_148 rfl rfl ?_
            refine r_laloadN C (hbk.k 39 21 rfl) (hbk.n 39 24 rfl) (by omega) (by omega) dX11_grossFor_149 ?_
            refine V.el (y := ntL (gfS τ (72 * p + 3 * m + q) i) p m) (hGI.2.2.2.2.2) ?_
            refine r_lload C 5 dX11_grossFor_150 rfl ?_
            refine r_lcmp_lt C (t := 160) dX11_grossFor_152 dX11_grossFor_153 (by decide) (fun c153 => ?_) (fun c153 => ?_)
            · exact absurd c153 (Int64.not_lt.mpr c95)
            · skip
              refine r_iconst C (v := nI 1) dX11_grossFor_156 (by decide) ?_
              refine r_goto C (t := 161) dX11_grossFor_157 (by decide) ?_
              refine r_istore C (lo' := [(11, .int (nI 1)), (0, .ref (α 0)), (1, .int (nI p)), (2, .int (nI m)), (3, .int (nI q)), (5, .ref (bO α p 0)), (6, .long (ntL τ p m + lN ww)), (8, .long (grL τ p m q)), (10, .int (nI (10000 * i)))]) dX11_grossFor_161 (by decide) rfl ?_
              refine r_aload C 5 dX11_grossFor_163 rfl ?_
              refine r_getR C (b := (bO α p 1)) fl_X11_275 rfl (hbk.k 0 4 rfl) (hbk.r 0 1 1 rfl) dX11_grossFor_165 ?_
              refine r_iload_n C 4 dX11_grossFor_168 rfl rfl ?_
              refine r_aaloadN C (b := (bO α p (2 + q))) 5 (by decide) (hbk.k 1 28 rfl) (hbk.n 1 3 rfl) (by omega) (by omega) (hbk.ro 1 2 3 1 rfl q (by omega)) dX11_grossFor_169 ?_
              refine r_iload_n C 3 dX11_grossFor_170 rfl rfl ?_
              refine r_lload C 7 dX11_grossFor_171 rfl ?_
              refine r_lastoreN C (hbk.ko 2 21 3 rfl q (by omega)) (hbk.no 2 24 3 rfl q (by omega)) (by omega) (by omega) dX11_grossFor_173 ?_
              refine r_aload C 5 dX11_grossFor_174 rfl ?_
              refine r_iload_n C 3 dX11_grossFor_176 rfl rfl ?_
              refine r_aload_n C 1 dX11_grossFor_177 rfl rfl ?_
              refine r_getR C (b := (α 2)) fl_X11_18 rfl (hx.k 0 14 rfl) (hx.r 0 1 2 rfl) dX11_grossFor_178 ?_
              refine r_iload_n C 2 dX11_grossFor_181 rfl rfl ?_
              refine r_aaloadN C (b := (hO α p 0)) 1 (by decide) (hx.k 2 24 rfl) (hx.n 2 6 rfl) (by omega) (by omega) (hpe2 p (by omega)) dX11_grossFor_182 ?_
              refine r_aload_n C 1 dX11_grossFor_183 rfl rfl ?_
              refine r_getR C (b := (α 3)) fl_X11_24 rfl (hx.k 0 14 rfl) (hx.r 0 2 3 rfl) dX11_grossFor_184 ?_
              have hpre := gf_pre (i := i) (j := 0) hw hbo hwsB hwtB hbf hp hm hq (by omega) hGI (v := grL τ p m q) rfl
              have hbkI := hpre.2.2.2.2.blk hbkB
              refine r_callV C hgX (ci := 3) ml_X11_278 im_X0_reckon se_X0_reckon rfl rfl (show mK (wL M1 (bO α p (2 + q)) m (grL τ p m q)) (bO α p 0) = 3 + 1 from (hbk.k 0 4 rfl)) (c_X0_reckon l hfl G (wL M1 (bO α p (2 + q)) m (grL τ p m q)) (bO α p) hbkI τ hw p m hp hm (hO α p) (α 3) (gO α) ⟨hx.k 3 25 rfl, hx.n 3 3 rfl, hpl3⟩ hpre.1 hpre.2.1 hpre.2.2.1 hpre.2.2.2.1) rfl (Nat.le_of_ble_eq_true rfl) ⟨Nat.le_of_ble_eq_true rfl, Nat.le_of_ble_eq_true rfl⟩ ⟨Nat.le_of_ble_eq_true rfl, Nat.le_of_ble_eq_true rfl⟩ dX11_grossFor_187 rfl ?_
              rintro _ My7 ⟨rfl, hfm7, hmi7, hbr7, hok7, hox7⟩
              have hGN := gf_post (j := 0) hwsB hp hq hGI hfm7 hmi7 hbr7 hok7 hox7
              have hBF := gf_bf hw hwsB hbf hp hGN hbr7
              have hbxN := hbx3.ba hw hws.1 hp (bk_ba hGN.1)
              refine r_iload C 0 dX11_grossFor_190 rfl ?_
              refine r_if_eqN C (t := 200) (by omega) dX11_grossFor_192 (by decide) (fun c192 => ?_) (fun c192 => ?_)
              · exact absurd c192 (by decide)
              · skip
                refine r_iload C 8 dX11_grossFor_195 rfl ?_
                refine r_goto C (t := 201) dX11_grossFor_197 (by decide) ?_
                refine V.xret ?_
                exact r_iret C hr (⟨k_2 hq_ hq2, by rw [e_x, e_y, e_z, e_w, nI_clamp (n := p) (by omega), nI_clamp (n := m) (by omega), nI_clamp (n := q) (by omega), nI_clamp (n := ww) (by omega)]; exact congrArg (fun z => some (Value.int z)) (gf_yes (i := i) hi1 hi hno (Int64.not_lt.mp c153)).symm, α, ⟨hbxN.ws hp hws, hbxN.wt hw hws.1 hp hwt, WB.bx hbxN hw hws.1 hp hwb hBF⟩, rfl, CF.bx hp hbxN, fun _ _ hz_ => hz_⟩) (by first | exact Nat.zero_le _ | decide) (by first | exact Nat.zero_le _ | decide) dX11_grossFor_201
          · skip
            refine r_iload C 8 dX11_grossFor_98 rfl ?_
            refine r_sipush C (v := nI 10000) dX11_grossFor_100 (by decide) ?_
            refine r_imulN C dX11_grossFor_103 ?_
            refine V.ei (y := nI (10000 * (i + 1))) (congrArg nI (Nat.mul_comm _ _)) ?_
            refine r_istore C (lo' := [(10, .int (nI (10000 * (i + 1)))), (0, .ref (α 0)), (1, .int (nI p)), (2, .int (nI m)), (3, .int (nI q)), (5, .ref (bO α p 0)), (6, .long (ntL τ p m + lN ww)), (8, .long (grL τ p m q)), (11, .int (nI (i + 1)))]) dX11_grossFor_104 (by decide) rfl ?_
            refine r_aload C 5 dX11_grossFor_106 rfl ?_
            refine r_getR C (b := (bO α p 1)) fl_X11_275 rfl (hbk.k 0 4 rfl) (hbk.r 0 1 1 rfl) dX11_grossFor_108 ?_
            refine r_iload_n C 4 dX11_grossFor_111 rfl rfl ?_
            refine r_aaloadN C (b := (bO α p (2 + q))) 5 (by decide) (hbk.k 1 28 rfl) (hbk.n 1 3 rfl) (by omega) (by omega) (hbk.ro 1 2 3 1 rfl q (by omega)) dX11_grossFor_112 ?_
            refine r_iload_n C 3 dX11_grossFor_113 rfl rfl ?_
            refine r_lload C 7 dX11_grossFor_114 rfl ?_
            refine r_iload C 0 dX11_grossFor_116 rfl ?_
            refine r_i2lN C (by omega) dX11_grossFor_118 ?_
            refine r_ladd C dX11_grossFor_119 ?_
            refine r_lastoreN C (hbk.ko 2 21 3 rfl q (by omega)) (hbk.no 2 24 3 rfl q (by omega)) (by omega) (by omega) dX11_grossFor_120 ?_
            refine r_aload C 5 dX11_grossFor_121 rfl ?_
            refine r_iload_n C 3 dX11_grossFor_123 rfl rfl ?_
            refine r_aload_n C 1 dX11_grossFor_124 rfl rfl ?_
            refine r_getR C (b := (α 2)) fl_X11_18 rfl (hx.k 0 14 rfl) (hx.r 0 1 2 rfl) dX11_grossFor_125 ?_
            refine r_iload_n C 2 dX11_grossFor_128 rfl rfl ?_
            refine r_aaloadN C (b := (hO α p 0)) 1 (by decide) (hx.k 2 24 rfl) (hx.n 2 6 rfl) (by omega) (by omega) (hpe2 p (by omega)) dX11_grossFor_129 ?_
            refine r_aload_n C 1 dX11_grossFor_130 rfl rfl ?_
            refine r_getR C (b := (α 3)) fl_X11_24 rfl (hx.k 0 14 rfl) (hx.r 0 2 3 rfl) dX11_grossFor_131 ?_
            have hpre := gf_pre (i := i) (j := i + 1) hw hbo hwsB hwtB hbf hp hm hq (by omega) hGI (v := grL τ p m q + lN (10000 * (i + 1))) (gfS_g hbo hp hm hq (by omega)).symm
            have hbkI := hpre.2.2.2.2.blk hbkB
            have hwS := gfS_w hw hbo (A := (72 * p + 3 * m + q)) (i := i + 1) (by omega) (by omega)
            refine r_callV C hgX (ci := 3) ml_X11_278 im_X0_reckon se_X0_reckon rfl rfl (show mK (wL M1 (bO α p (2 + q)) m ((grL τ p m q) + (lN (10000 * (i + 1))))) (bO α p 0) = 3 + 1 from (hbk.k 0 4 rfl)) (c_X0_reckon l hfl G (wL M1 (bO α p (2 + q)) m ((grL τ p m q) + (lN (10000 * (i + 1))))) (bO α p) hbkI (gfS τ (72 * p + 3 * m + q) (i + 1)) hwS p m hp hm (hO α p) (α 3) (gO α) ⟨hx.k 3 25 rfl, hx.n 3 3 rfl, hpl3⟩ hpre.1 hpre.2.1 hpre.2.2.1 hpre.2.2.2.1) rfl (Nat.le_of_ble_eq_true rfl) ⟨Nat.le_of_ble_eq_true rfl, Nat.le_of_ble_eq_true rfl⟩ ⟨Nat.le_of_ble_eq_true rfl, Nat.le_of_ble_eq_true rfl⟩ dX11_grossFor_134 rfl ?_
            rintro _ My8 ⟨rfl, hfm8, hmi8, hbr8, hok8, hox8⟩
            have hGN := gf_post hwsB hp hq hGI hfm8 hmi8 hbr8 hok8 hox8
            refine r_iinc C (v := nI (i + 1 + 1)) (lo' := [(11, .int (nI (i + 1 + 1))), (10, .int (nI (10000 * (i + 1)))), (0, .ref (α 0)), (1, .int (nI p)), (2, .int (nI m)), (3, .int (nI q)), (5, .ref (bO α p 0)), (6, .long (ntL τ p m + lN ww)), (8, .long (grL τ p m q))]) 8 dX11_grossFor_137 rfl (nI_addI (i + 1) 1) (by decide) rfl ?_
            refine r_goto C (t := 77) dX11_grossFor_140 (by decide) ?_
            refine V.sub [2, 3, 4, 5, 6, 7, 8, 1, 0] (lo' := [(0, .ref (α 0)), (1, .int (nI p)), (2, .int (nI m)), (3, .int (nI q)), (5, .ref (bO α p 0)), (6, .long (ntL τ p m + lN ww)), (8, .long (grL τ p m q)), (10, .int (nI (10000 * (i + 1)))), (11, .int (nI (i + 1 + 1)))]) rfl ?_
            exact ih77 My8 (i + 1) (by omega) hGN (fun k hk => by by_cases z : k + 1 < i; exact hno k z; (have hk2 : i = k + 1 := by omega); subst hk2; unfold gfB; have c := c95; rw [show gfS τ (72 * p + 3 * m + q) (k + 1) = sI τ 30 (72 * p + 3 * m + q) (τ.1 30 (72 * p + 3 * m + q) + nI (10000 * (k + 1))) from if_neg (by omega)] at c; exact decide_eq_false c) (by omega)
    refine V.sub [5, 6, 7, 8, 4, 3, 2, 1, 0] (lo' := [(0, .ref (α 0)), (1, .int (nI p)), (2, .int (nI m)), (3, .int (nI q)), (5, .ref (bO α p 0)), (6, .long ((ntL τ p m) + (lN ww))), (8, .long (grL τ p m q)), (10, .int (nI (10000 * 0))), (11, .int (nI 1))]) rfl ?_
    exact lp77 _ My3 0 (Nat.zero_le _) (GI.of hm hbf) (fun k hk => absurd hk (by omega)) (Nat.lt_succ_self _)
  refine r_iload_n C 1 dX11_grossFor_0 rfl rfl ?_
  refine r_callS C hgX ml_X11_45 st_X11_isPerson (c_X11_isPerson l hfl G M x) rfl (Nat.le_of_ble_eq_true rfl) ⟨Nat.le_of_ble_eq_true rfl, Nat.le_of_ble_eq_true rfl⟩ ⟨Nat.le_of_ble_eq_true rfl, Nat.le_of_ble_eq_true rfl⟩ dX11_grossFor_1 rfl ?_
  rintro _ _ ⟨rfl, rfl⟩
  refine V.eSt (st' := [.int (bI (rng x 6))]) rfl ?_
  refine r_if_eqB C (t := 25) dX11_grossFor_4 (by decide) (fun c4 => ?_) (fun c4 => ?_)
  · skip
    refine r_iconst C (v := nI 0) dX11_grossFor_25 (by decide) ?_
    refine V.eSt (st' := [.int (bI false)]) rfl ?_
    refine V.ei (y := bI (rng x 6 && rng y 24 && rng z 3)) (congrArg bI (by simp [c4])) ?_
    exact jn26
  · skip
    refine r_iload_n C 2 dX11_grossFor_7 rfl rfl ?_
    refine r_callS C hgX ml_X11_141 st_X11_isMonth (c_X11_isMonth l hfl G M y) rfl (Nat.le_of_ble_eq_true rfl) ⟨Nat.le_of_ble_eq_true rfl, Nat.le_of_ble_eq_true rfl⟩ ⟨Nat.le_of_ble_eq_true rfl, Nat.le_of_ble_eq_true rfl⟩ dX11_grossFor_8 rfl ?_
    rintro _ _ ⟨rfl, rfl⟩
    refine V.eSt (st' := [.int (bI (rng y 24))]) rfl ?_
    refine r_if_eqB C (t := 25) dX11_grossFor_11 (by decide) (fun c11 => ?_) (fun c11 => ?_)
    · skip
      refine r_iconst C (v := nI 0) dX11_grossFor_25 (by decide) ?_
      refine V.eSt (st' := [.int (bI false)]) rfl ?_
      refine V.ei (y := bI (rng x 6 && rng y 24 && rng z 3)) (congrArg bI (by simp [c4, c11])) ?_
      exact jn26
    · skip
      refine r_iload_n C 3 dX11_grossFor_14 rfl rfl ?_
      refine r_callS C hgX ml_X11_49 st_X11_isPlace (c_X11_isPlace l hfl G M z) rfl (Nat.le_of_ble_eq_true rfl) ⟨Nat.le_of_ble_eq_true rfl, Nat.le_of_ble_eq_true rfl⟩ ⟨Nat.le_of_ble_eq_true rfl, Nat.le_of_ble_eq_true rfl⟩ dX11_grossFor_15 rfl ?_
      rintro _ _ ⟨rfl, rfl⟩
      refine V.eSt (st' := [.int (bI (rng z 3))]) rfl ?_
      refine r_if_eqB C (t := 25) dX11_grossFor_18 (by decide) (fun c18 => ?_) (fun c18 => ?_)
      · skip
        refine r_iconst C (v := nI 0) dX11_grossFor_25 (by decide) ?_
        refine V.eSt (st' := [.int (bI false)]) rfl ?_
        refine V.ei (y := bI (rng x 6 && rng y 24 && rng z 3)) (congrArg bI (by simp [c4, c11, c18])) ?_
        exact jn26
      · skip
        refine r_iconst C (v := nI 1) dX11_grossFor_21 (by decide) ?_
        refine r_goto C (t := 26) dX11_grossFor_22 (by decide) ?_
        refine V.eSt (st' := [.int (bI true)]) rfl ?_
        refine V.ei (y := bI (rng x 6 && rng y 24 && rng z 3)) (congrArg bI (by simp [c4, c11, c18])) ?_
        exact jn26
