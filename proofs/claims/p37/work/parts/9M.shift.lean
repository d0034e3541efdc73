/-! shift -/
theorem EnN.cg {P Q : Nat → Prop} {n nc : Nat} {cn : Nat → Nat} (h : EnN P n nc cn) (e : ∀ c, c < n → (P c ↔ Q c)) : EnN Q n nc cn :=
  ⟨fun i hi => ⟨(h.1 i hi).1, (e _ (h.1 i hi).1).mp (h.1 i hi).2⟩, h.2.1, fun c hc hq => h.2.2 c hc ((e c hc).mpr hq)⟩
theorem EnN.skip {P : Nat → Prop} {n nc : Nat} {cn : Nat → Nat} (h : EnN P n nc cn) (hn : ¬ P n) : EnN P (n + 1) nc cn :=
  ⟨fun i hi => ⟨Nat.lt_succ_of_lt (h.1 i hi).1, (h.1 i hi).2⟩, h.2.1, fun c hc hp => h.2.2 c (by have : c ≠ n := fun e => hn (e ▸ hp); omega) hp⟩
theorem EnN.add {P : Nat → Prop} {n nc : Nat} {cn : Nat → Nat} (h : EnN P n nc cn) (hn : P n) : EnN P (n + 1) (nc + 1) (fun i => if i = nc then n else cn i) := by
  refine ⟨fun i hi => ?_, fun i j h1 h2 => ?_, fun c hc hp => ?_⟩
  · show (if i = nc then n else cn i) < n + 1 ∧ P (if i = nc then n else cn i)
    by_cases q : i = nc
    · rw [if_pos q]; exact ⟨Nat.lt_succ_self _, hn⟩
    · rw [if_neg q]; exact ⟨Nat.lt_succ_of_lt (h.1 i (by omega)).1, (h.1 i (by omega)).2⟩
  · show (if i = nc then n else cn i) < (if j = nc then n else cn j)
    rw [if_neg (by omega)]
    by_cases q : j = nc
    · rw [if_pos q]; exact (h.1 i (by omega)).1
    · rw [if_neg q]; exact h.2.1 i j h1 (by omega)
  · by_cases q : c = n
    · exact ⟨nc, Nat.lt_succ_self _, by show (if nc = nc then n else cn nc) = c; rw [if_pos rfl, q]⟩
    · obtain ⟨i, h1, h2⟩ := h.2.2 c (by omega) hp
      exact ⟨i, by omega, by show (if i = nc then n else cn i) = c; rw [if_neg (by omega)]; exact h2⟩
def ShF (τ U : Mu) (c d m n : Nat) : Prop := (∀ k, k ≠ 8 → (k < 10 ∨ 13 < k) → U.1 k = τ.1 k) ∧ (∀ k, U.2 k = τ.2 k) ∧ un U 13 13 = un τ 13 13 + 1 ∧ (∀ q, q ≠ un τ 13 13 → un U 10 q = un τ 10 q ∧ un U 11 q = un τ 11 q ∧ un U 12 q = un τ 12 q) ∧ (un U 10 (un τ 13 13) = c ∧ un U 11 (un τ 13 13) = 1440 * d + m ∧ un U 12 (un τ 13 13) = n) ∧
  ∀ x, un U 8 x = if x = 720 * c + d then un τ 8 (720 * c + d) + shH n m else if x = 720 * c + d + 1 ∧ d < 719 then un τ 8 (720 * c + d + 1) + (shN n - shH n m) else un τ 8 x
theorem shG_f {τ : Mu} {c d m n a b i j : Nat} (ha : a < 2 ^ 31) (hb : b < 2 ^ 31) (hc : c < 2 ^ 31) (hdm : 1440 * d + m < 2 ^ 31) (hn : n < 2 ^ 31) (h13 : un τ 13 13 + 1 < 2 ^ 31) : (∀ k, k ≠ 8 → (k < 10 ∨ 13 < k) → (shG τ c d m n a b i j).1 k = τ.1 k) ∧ un (shG τ c d m n a b i j) 13 13 = un τ 13 13 + 1 ∧ (∀ q, q ≠ un τ 13 13 → un (shG τ c d m n a b i j) 10 q = un τ 10 q ∧ un (shG τ c d m n a b i j) 11 q = un τ 11 q ∧ un (shG τ c d m n a b i j) 12 q = un τ 12 q) ∧ (un (shG τ c d m n a b i j) 10 (un τ 13 13) = c ∧ un (shG τ c d m n a b i j) 11 (un τ 13 13) = 1440 * d + m ∧ un (shG τ c d m n a b i j) 12 (un τ 13 13) = n) := by
  refine ⟨fun k h1 h2 => ?_, un_of (sI_s (τ := sI (sI (sI τ 10 (un τ 13 13) (nI c)) 11 (un τ 13 13) (nI (1440 * d + m))) 12 (un τ 13 13) (nI n)) (k := 13) (x := 13) (v := nI (un τ 13 13 + 1))) h13, fun q hq => ⟨?_, ?_, ?_⟩, ?_, ?_, ?_⟩
  · exact (sI_r (τ := sI (shF τ c d m n) 8 i (nI a)) h1).trans ((sI_r (τ := shF τ c d m n) h1).trans ((sI_r (by omega)).trans ((sI_r (by omega)).trans ((sI_r (by omega)).trans (sI_r (by omega))))))
  · exact un_cg (sI_k (τ := τ) (k := 10) (x := un τ 13 13) (v := nI c) hq)
  · exact un_cg (sI_k (τ := sI τ 10 (un τ 13 13) (nI c)) (k := 11) (x := un τ 13 13) (v := nI (1440 * d + m)) hq)
  · exact un_cg (sI_k (τ := sI (sI τ 10 (un τ 13 13) (nI c)) 11 (un τ 13 13) (nI (1440 * d + m))) (k := 12) (x := un τ 13 13) (v := nI n) hq)
  · exact un_of (sI_s (τ := τ) (k := 10) (x := un τ 13 13) (v := nI c)) hc
  · exact un_of (sI_s (τ := sI τ 10 (un τ 13 13) (nI c)) (k := 11) (x := un τ 13 13) (v := nI (1440 * d + m))) hdm
  · exact un_of (sI_s (τ := sI (sI τ 10 (un τ 13 13) (nI c)) 11 (un τ 13 13) (nI (1440 * d + m))) (k := 12) (x := un τ 13 13) (v := nI n)) hn
theorem sh_f {τ : Mu} {c d m n : Nat} (hw : WF τ) (hc : c < un τ 9 9) (hd : d < 720) (hm : m ≤ 1439) (hn : n ≤ 1440) : ShF τ (shU τ c d m n) c d m n := by
  have e1 := shN_le n
  have e2 := shH_le n m
  have h9 := hw.nc.2
  have h13 := hw.sh.2
  have a1 := (hw.mn (720 * c + d) (by omega)).2
  have s : 1440 * un τ 13 13 ≤ 57600 := by omega
  unfold shU
  by_cases q : d < 719
  · rw [if_pos q]
    have a2 := (hw.mn (720 * c + d + 1) (by omega)).2
    obtain ⟨g1, g2, g3, g4⟩ := shG_f (τ := τ) (c := c) (d := d) (m := m) (n := n) (a := un τ 8 (720 * c + d) + shH n m) (b := un τ 8 (720 * c + d + 1) + (shN n - shH n m)) (i := 720 * c + d) (j := 720 * c + d + 1) (by omega) (by omega) (by omega) (by omega) (by omega) (by omega)
    refine ⟨g1, fun k => rfl, g2, g3, g4, fun x => (shG_v (by omega) (by omega) x).trans ?_⟩
    by_cases z : x = 720 * c + d
    · rw [if_neg (by omega), if_pos z, if_pos z]
    · rw [if_neg z, if_neg z]
      by_cases y : x = 720 * c + d + 1
      · rw [if_pos y, if_pos ⟨y, q⟩]
      · rw [if_neg y, if_neg (fun w => y w.1)]
  · rw [if_neg q, ← sI_twice]
    obtain ⟨g1, g2, g3, g4⟩ := shG_f (τ := τ) (c := c) (d := d) (m := m) (n := n) (a := un τ 8 (720 * c + d) + shH n m) (b := un τ 8 (720 * c + d) + shH n m) (i := 720 * c + d) (j := 720 * c + d) (by omega) (by omega) (by omega) (by omega) (by omega) (by omega)
    refine ⟨g1, fun k => rfl, g2, g3, g4, fun x => (shG_v (by omega) (by omega) x).trans ?_⟩
    by_cases z : x = 720 * c + d
    · rw [if_pos z, if_pos z]
    · rw [if_neg z, if_neg z, if_neg z, if_neg (fun w => q w.2)]
theorem sh_any {τ : Mu} {c b n sn : Nat} {sk : Nat → Nat} (h : EnN (fun k => un τ 10 k = c) (un τ 13 13) sn sk) : anyN (fun j => decide (b < un τ 11 (sk j) + un τ 12 (sk j) ∧ un τ 11 (sk j) < b + n)) sn = meetsB τ c b n := by
  unfold meetsB
  rw [Bool.eq_iff_iff, anyN_iff, anyN_iff]
  constructor
  · rintro ⟨j, h1, h2⟩
    have g := h.1 j h1
    exact ⟨sk j, g.1, decide_eq_true ⟨g.2, of_decide_eq_true h2⟩⟩
  · rintro ⟨k, h1, h2⟩
    have g := of_decide_eq_true h2
    obtain ⟨j, a, rfl⟩ := h.2.2 k h1 g.1
    exact ⟨j, a, decide_eq_true g.2⟩
theorem isOf_t {τ : Mu} {x y : Int32} (hw : WF τ) (h : isOfB τ x y = true) : ∃ c d, c < un τ 9 9 ∧ un τ 2 c ≤ d ∧ d ≤ un τ 3 c ∧ x = nI c ∧ y = nI d := by
  unfold isOfB at h
  rw [Bool.and_eq_true, decide_eq_true_iff] at h
  obtain ⟨c, hc, rfl⟩ := rng_t h.1
  have h2 := h.2
  have h9 := hw.nc.2
  rw [nI_clamp (by omega)] at h2
  have ht := (hw.ct c hc).2
  refine ⟨c, y.toInt.toNat, hc, by omega, by omega, rfl, ?_⟩
  apply Int32.toInt_inj.mp
  rw [nI_toInt (by omega)]
  omega
def ShX (α : Nat → Nat) (c a : Nat) : Prop := CoX2 α c a ∨ a = α 0
theorem ShX.lv {τ : Mu} {α : Nat → Nat} {c a : Nat} (hc : c < un τ 9 9) (h : ShX α c a) : ∃ k, LV τ k ∧ a = α k := h.elim (fun h => h.lv hc) (fun h => ⟨0, lv_s (by decide), h⟩)
theorem ShX.no {τ : Mu} {α : Nat → Nat} {c k : Nat} (hi : INJ τ α) (hc : c < un τ 9 9) (hk : LV τ k) (h : ¬ (1000 + 10 * c ≤ k ∧ k < 1007 + 10 * c)) (h0 : k ≠ 0) : ¬ ShX α c (α k) := fun q => q.elim (CoX2.no hi hc hk h) (fun e => h0 (hi _ _ hk (lv_s (by decide)) e))
theorem ShX.lc {τ : Mu} {α : Nat → Nat} {c k : Nat} (hi : INJ τ α) (hc : c < un τ 9 9) (hk : LC k) : ¬ ShX α c (α k) := ShX.no hi hc (lc_bc (p := 0) hk).1 (by rcases hk with rfl | rfl | rfl | ⟨q, o, h1, h2, h3, rfl⟩ <;> omega) (by rcases hk with rfl | rfl | rfl | ⟨q, o, h1, h2, h3, rfl⟩ <;> omega)

theorem sh_w {τ : Mu} {G : gW} {α : Nat → Nat} {M M1 : Mem} {c d m n sn : Nat} {sk : Nat → Nat} (hc : c < un τ 9 9) (hd1 : un τ 2 c ≤ d) (hd2 : d ≤ un τ 3 c) (hm : m ≤ 1439) (hn : 1 ≤ n ∧ n ≤ 1440) (h40 : un τ 13 13 ≠ 40) (hw : WF τ) (ws : WS τ G α M) (wt : WT τ α M) (wb : WB τ α M) (hsk : EnN (fun k => un τ 10 k = c) (un τ 13 13) sn sk) (hse : ∀ j, j < sn → mI M (cO α c 5) j = nI (un τ 11 (sk j)) ∧ mI M (cO α c 6) j = nI (un τ 11 (sk j) + un τ 12 (sk j)))
    (f0 : frm (fun a => a = cO α c 0 ∨ a = cO α c 4 ∨ a = cO α c 5 ∨ a = cO α c 6) M M1) (h0 : ∀ k, k ≠ 10 → k ≠ 11 → mI M1 (cO α c 0) k = mI M (cO α c 0) k) (h10 : mI M1 (cO α c 0) 10 = nI (sn + 1)) (h11 : mI M1 (cO α c 0) 11 = nI 1) (h5 : ∀ k, mI M1 (cO α c 5) k = if k = sn then nI (1440 * d + m) else mI M (cO α c 5) k) (h6 : ∀ k, mI M1 (cO α c 6) k = if k = sn then nI (1440 * d + m + n) else mI M (cO α c 6) k)
    (h4 : ∀ x, x < 720 → mI M1 (cO α c 4) x = nI (if x = d then un τ 8 (720 * c + d) + shH n m else if x = d + 1 then un τ 8 (720 * c + (d + 1)) + (shN n - shH n m) else un τ 8 (720 * c + x))) : WD (shU τ c d m n) G α (wI (wI M1 (bO α (un τ 0 c) 0) 0 (nI 1)) (α 0) 6 (nI (un τ 13 13 + 1))) := by
  have h9 := hw.nc.2
  have h44 := hw.ng.2
  have h17 := hw.nl.2
  have hq : un τ 0 c < 6 := by have := (hw.cw c hc).2; omega
  have hct := (hw.ct c hc).2
  have hwU := wf_shift hw h40 hc hd1 hd2 hm hn
  obtain ⟨hU, l2, u13, k10, s10, u8⟩ := sh_f hw hc (show d < 720 by omega) hm hn.2
  generalize hUe : shU τ c d m n = U at hU l2 u13 k10 s10 u8 hwU ⊢
  rw [wI_cm (show bO α (un τ 0 c) 0 ≠ α 0 from ws.1.ne (lv_b hq (by decide)) (lv_s (by decide)) (by omega))]
  have f : frm (ShX α c) M (wI M1 (α 0) 6 (nI (un τ 13 13 + 1))) := (f0.mono fun a h => by
    rcases h with h | h | h | h
    · exact .inl ⟨0, by decide, h⟩
    · exact .inl ⟨4, by decide, h⟩
    · exact .inl ⟨5, by decide, h⟩
    · exact .inl ⟨6, by decide, h⟩).wi _ _ (.inr rfl)
  have ec : ∀ x, x < un τ 9 9 → ∀ o, o < 10 → mI (wI M1 (α 0) 6 (nI (un τ 13 13 + 1))) (cO α x o) = mI M1 (cO α x o) := fun x hx o ho => wI_a (ws.1.ne (lv_c hx ho) (lv_s (by decide)) (by omega))
  have hx0 : ∀ k, mI (wI M1 (α 0) 6 (nI (un τ 13 13 + 1))) (α 0) k = if k = 6 then nI (un τ 13 13 + 1) else mI M (α 0) k := fun k => by
    by_cases q : k = 6
    · subst q; rw [if_pos rfl]; exact wI_i
    · rw [if_neg q]; exact (wI_k q).trans (congrFun (f0.i (fun z => by rcases z with z | z | z | z <;> (have := ws.1 _ _ (lv_s (by decide)) (lv_c hc (by decide)) z; omega))) k)
  generalize hM2 : wI M1 (α 0) 6 (nI (un τ 13 13 + 1)) = M2 at f ec hx0 ⊢
  have n : ∀ k, LV τ k → ¬ (1000 + 10 * c ≤ k ∧ k < 1007 + 10 * c) → k ≠ 0 → ¬ ShX α c (α k) := fun k hk h h0 => ShX.no ws.1 hc hk h h0
  have ws1 : WS U G α M2 := (ws.fr f (fun k hk => ShX.lc ws.1 hc hk)).u (hU 0 (by decide) (by decide)) (hU 9 (by decide) (by decide)) (hU 14 (by decide) (by decide)) (hU 15 (by decide) (by decide)) (hU 17 (by decide) (by decide)) (hU 38 (by decide) (by decide)) (hU 40 (by decide) (by decide)) (hU 44 (by decide) (by decide)) (hU 51 (by decide) (by decide))
  have e9 : un U 9 9 = un τ 9 9 := congrFun (un_e (hU 9 (by decide) (by decide))) 9
  have ao : ∀ x, x < un τ 9 9 → x ≠ c → CAg x τ U := fun x hx q => ⟨fun k hk => congrFun (un_e (hU k (by omega) (by omega))) x, fun d hd => ⟨fun _ _ => congrFun (un_e (hU 7 (by decide) (by decide))) _, (u8 _).trans ((if_neg (by rcases Nat.lt_trichotomy x c with z | z | z <;> omega)).trans (if_neg (by rcases Nat.lt_trichotomy x c with z | z | z <;> omega)))⟩⟩
  have hvp : ∀ r, (∀ x, x < un τ 9 9 → un τ 0 x = r → CAg x τ U) → VP r τ U := fun r ha => ⟨hw, ⟨Nat.le_of_eq e9.symm, fun x hx => by rw [e9] at hx; rw [un_e (hU 0 (by decide) (by decide))]; exact ⟨fun z => ⟨hx, z⟩, fun z => z.2⟩, ha⟩, VPl.of (hU 0 (by decide) (by decide)) fun k h1 _ => hU k (by omega) (by omega), VPe.of fun k h1 _ => hU k (by omega) (by omega), VPt.of (fun k h1 _ => hU k (by omega) (by omega)) (fun m _ => by rw [l2]), VPg.of fun k h1 _ => hU k (by omega) (by omega)⟩
  have hbr : ∀ r, r < 6 → mI M2 (bO α r 0) 0 = 0 → (∀ x, x < un τ 9 9 → un τ 0 x = r → x ≠ c) → BF τ r α M2 := fun r hr z hx => by
    have nb : ∀ o, o < 42 → ¬ ShX α c (bO α r o) := fun o ho => n _ (lv_b hr ho) (by omega) (by omega)
    have nc : ∀ x, x < un τ 9 9 → x ≠ c → ∀ o, o < 10 → ¬ ShX α c (cO α x o) := fun x h1 h2 o ho => n _ (lv_c h1 ho) (by omega) (by omega)
    exact BF.cg (fun o ho => ⟨f.i (nb o ho), f.l (nb o ho)⟩) (fun g hg _ => f.l (n _ (lv_a hg (by decide)) (by omega) (by omega))) (fun x h1 h2 => ⟨f.i (nc x h1 (hx x h1 h2) 8 (by decide)), f.l (nc x h1 (hx x h1 h2) 7 (by decide)), f.l (nc x h1 (hx x h1 h2) 9 (by decide))⟩) (fun k hk _ => congrFun (f.i (n _ (lv_l hk) (by omega) (by omega))) 2) (wb.2 r hr (by rw [← f.i (nb 0 (by decide))]; exact z))
  obtain ⟨w1, w2, w3, w4, w5⟩ := wt
  have wto : ∀ x, x < un τ 9 9 → x ≠ c → WTc U α M2 x := fun x hx q => by
    obtain ⟨_, _, sn', sk', a1, a2, a3⟩ := w1 x hx
    have nx : ∀ o, o < 10 → mI M2 (cO α x o) = mI M (cO α x o) := fun o ho => f.i (n _ (lv_c hx ho) (by omega) (by omega))
    refine ((w1 x hx).cg (fun k _ => congrFun (nx 0 (by decide)) k) (fun o _ ho => nx o (by omega))).ag hw hx (ao x hx q) (fun d hd => congrFun (hU 6 (by decide) (by decide)) _) ⟨sn', sk', ?_, (congrFun (nx 0 (by decide)) 10).trans a2, fun j hj => ?_⟩
    · rw [u13]
      exact (a1.cg fun k hk => by rw [(k10 k (by omega)).1]).skip (fun z => q (z.symm.trans s10.1))
    · have hk := (a1.1 j hj).1
      rw [nx 5 (by decide), nx 6 (by decide), (k10 _ (show sk' j ≠ un τ 13 13 by omega)).2.1, (k10 _ (show sk' j ≠ un τ 13 13 by omega)).2.2]
      exact a3 j hj
  have hcU : WTc U α M2 c := by
    obtain ⟨⟨b0, b1, b2, b3, b4, b5, b6, b7⟩, g2, _⟩ := w1 c hc
    have c0 : ∀ k, k ≠ 10 → k ≠ 11 → mI M2 (cO α c 0) k = mI M (cO α c 0) k := fun k q1 q2 => (congrFun (ec c hc 0 (by decide)) k).trans (h0 k q1 q2)
    have cc : ∀ o, (o = 2 ∨ o = 3) → mI M2 (cO α c o) = mI M (cO α c o) := fun o ho => (ec c hc o (by omega)).trans (f0.i (fun z => by rcases z with z | z | z | z <;> (have := ws.1 _ _ (lv_c hc (show o < 10 by omega)) (lv_c hc (by decide)) z; omega)))
    have e : pyV U c = pyV τ c := by
      unfold pyV
      rw [un_e (hU 2 (by decide) (by decide)), un_e (hU 3 (by decide) (by decide)), (hU 6 (by decide) (by decide))]
    refine ⟨⟨by rw [c0 0 (by decide) (by decide), un_e (hU 0 (by decide) (by decide))]; exact b0, by rw [c0 1 (by decide) (by decide), un_e (hU 1 (by decide) (by decide))]; exact b1, by rw [c0 2 (by decide) (by decide), un_e (hU 2 (by decide) (by decide))]; exact b2, by rw [c0 3 (by decide) (by decide), un_e (hU 3 (by decide) (by decide))]; exact b3, by rw [c0 4 (by decide) (by decide), un_e (hU 4 (by decide) (by decide))]; exact b4, by rw [c0 5 (by decide) (by decide), un_e (hU 5 (by decide) (by decide))]; exact b5, fun d h1 h2 => ?_, fun x hx => ?_⟩, ?_, sn + 1, fun i => if i = sn then un τ 13 13 else sk i, ?_, (congrFun (ec c hc 0 (by decide)) 10).trans h10, fun j hj => ?_⟩
    · rw [cc 2 (.inl rfl), un_e (hU 7 (by decide) (by decide))]
      rw [un_e (hU 2 (by decide) (by decide))] at h1
      rw [un_e (hU 3 (by decide) (by decide))] at h2
      exact b6 d h1 h2
    · rw [ec c hc 4 (by decide), h4 x hx, u8]
      congr 1
      by_cases q : x = d
      · rw [if_pos q, if_pos (by omega)]
      · rw [if_neg q, if_neg (show ¬ 720 * c + x = 720 * c + d by omega)]
        by_cases z : x = d + 1
        · rw [if_pos z, if_pos ⟨by omega, by omega⟩, Nat.add_assoc]
        · rw [if_neg z, if_neg (fun y => z (by omega))]
    · rw [e]
      unfold StV
      rw [cc 2 (.inl rfl), cc 3 (.inr rfl)]
      exact g2
    · rw [u13]
      exact (hsk.cg fun k hk => by rw [(k10 k (by omega)).1]).add s10.1
    · show mI M2 (cO α c 5) j = nI (un U 11 (if j = sn then un τ 13 13 else sk j)) ∧ mI M2 (cO α c 6) j = nI (un U 11 (if j = sn then un τ 13 13 else sk j) + un U 12 (if j = sn then un τ 13 13 else sk j))
      rw [ec c hc 5 (by decide), ec c hc 6 (by decide), h5, h6]
      by_cases q : j = sn
      · rw [if_pos q, if_pos q, if_pos q, s10.2.1, s10.2.2]; exact ⟨rfl, rfl⟩
      · have hk := (hsk.1 j (by omega)).1
        rw [if_neg q, if_neg q, if_neg q, (k10 _ (show sk j ≠ un τ 13 13 by omega)).2.1, (k10 _ (show sk j ≠ un τ 13 13 by omega)).2.2]
        exact hse j (by omega)
  refine ch_w (τ := τ) hwU hq ws1 ⟨fun x hx => ?_, fun r hr => ?_, fun q hq => ?_, ?_, ?_⟩ (fun x hx hz => ?_) (fun r hr q => hvp r fun x h1 h2 => ao x h1 (fun y => q (h2.symm.trans (congrArg (un τ 0) y)))) (fun r hr q hz => hbr r hr hz fun x h1 h2 y => q (h2.symm.trans (congrArg (un τ 0) y)))
  · rw [e9] at hx
    by_cases q : x = c
    · subst q; exact hcU
    · exact wto x hx q
  · exact ((w2 r hr).cg (fun o ho => f.i (n _ (lv_h hr (show o < 57 by omega)) (by omega) (by omega))) (fun o ho => f.l (n _ (lv_h hr (show o < 57 by omega)) (by omega) (by omega)))).u (hU 30 (by decide) (by decide)) (hU 36 (by decide) (by decide)) (hU 37 (by decide) (by decide)) (hU 47 (by decide) (by decide)) (hU 50 (by decide) (by decide)) (hU 51 (by decide) (by decide)) (l2 45) (l2 49)
  · exact ((w3 q hq).cg (fun o ho => f.i (n _ (lv_g hq ho) (by omega) (by omega))) (fun o ho => f.l (n _ (lv_g hq ho) (by omega) (by omega)))).u (hU 31 (by decide) (by decide)) (hU 32 (by decide) (by decide)) (hU 33 (by decide) (by decide)) (hU 34 (by decide) (by decide)) (hU 35 (by decide) (by decide)) (hU 54 (by decide) (by decide)) (l2 52) (l2 53)
  · obtain ⟨b1, b2, b3, b4, b5, b6, b7⟩ := w4
    unfold WTx
    rw [hx0, hx0, hx0, hx0, hx0, hx0, u13, un_e (hU 17 (by decide) (by decide)), un_e (hU 18 (by decide) (by decide)), un_e (hU 19 (by decide) (by decide)), un_e (hU 20 (by decide) (by decide)), un_e (hU 46 (by decide) (by decide))]
    exact ⟨rfl, b2, b3, b4, b5, b6, (b7.cgs (fun o ho => f.i (n (4 + o) (lv_s (by omega)) (by omega) (by omega)))).u (hU 22 (by decide) (by decide)) (hU 23 (by decide) (by decide)) (hU 24 (by decide) (by decide)) (hU 25 (by decide) (by decide)) (hU 26 (by decide) (by decide)) (hU 27 (by decide) (by decide))⟩
  · exact (w5.cg (fun k hk => congrFun (f.i (n _ (lv_l hk) (by omega) (by omega))) 1) (fun g hg => f.i (n _ (lv_a hg (show 0 < 2 by decide)) (by omega) (by omega))) (fun k hk => ⟨f.i (n _ (lv_y hk) (by omega) (by omega)), f.l (n _ (lv_y hk) (by omega) (by omega))⟩)).u (hU 15 (by decide) (by decide)) (hU 17 (by decide) (by decide)) (fun k a b => hU k (by omega) (by omega)) (hU 47 (by decide) (by decide)) (hU 48 (by decide) (by decide)) (hU 50 (by decide) (by decide)) (hU 51 (by decide) (by decide)) (l2 49)
  · rw [e9] at hx
    by_cases q : x = c
    · subst q
      rw [congrFun (ec x hx 0 (by decide)) 11, h11] at hz
      exact absurd hz (by decide)
    · have nx : ∀ o, o < 10 → ¬ ShX α c (cO α x o) := fun o ho => n _ (lv_c hx ho) (by omega) (by omega)
      exact (ao x hx q).cw hw hx ((wb.1 x hx (by rw [← f.i (nx 0 (by decide))]; exact hz)).fr f (nx 7 (by decide)) (nx 8 (by decide)))
set_option maxHeartbeats 1000000 in
set_option maxRecDepth 100000 in
theorem c_X11_shift (l : Launch) (hfl : l.flags = flags0) (G : gW) (M : Mem) (τ : Mu) (hw : WF τ) (α : Nat → Nat) (hws : WS τ G α M) (hwt : WT τ α M) (hwb : WB τ α M) (had : ∀ p, p < 6 → AD τ p) (x y z w : Int32) : CX l yX11_shift cX11_shift 7 (some .int) 7 3 18 102 G M [.ref (α 0), .int x, .int y, .int z, .int w] (fun v M' => PC τ G α M (cd3 (isOfB τ x y) (inB z (lN 0) (lN 1439) && inB w (lN 1) (lN 1440)) (shB τ x y z w)) ((shU τ x.toNatClampNeg y.toNatClampNeg z.toNatClampNeg w.toNatClampNeg)) (some (.int (nI (un τ 13 13 + 1)))) v M') (fun E M' => XP M (cd3 (isOfB τ x y) (inB z (lN 0) (lN 1439) && inB w (lN 1) (lN 1440)) (shB τ x y z w)) ["java/lang/IndexOutOfBoundsException", "java/lang/IllegalArgumentException", "java/lang/IllegalStateException"] E M') := by
  refine CX.of hfl rfl (Nat.le_of_ble_eq_true rfl) ?_
  intro pp ee ss mm ar bw mt cd C hgX hr hno
  have hx := hws.2.1
  have hwx := hwt.2.2.2.1
  have h9 := hw.nc.2
  have h13 := hw.sh.2
  have h17 := hw.nl.2
  have h26 := hw.ne.2
  have h44 := hw.ng.2
  have h46 := hw.op.2
  have h51 := hw.np.2
  refine V.eLo (lo' := [(0, .ref (α 0)), (1, .int x), (2, .int y), (3, .int z), (4, .int w)]) rfl ?_
  have jn31 : V pp l ee ({ frames := 7, cells := 3, slots := 18, locals := 102 } : Room) ss mm ar bw mt cd G (vx_MQ bw (Ke G (fun v M' => PC τ G α M (cd3 (isOfB τ x y) (inB z (lN 0) (lN 1439) && inB w (lN 1) (lN 1440)) (shB τ x y z w)) ((shU τ x.toNatClampNeg y.toNatClampNeg z.toNatClampNeg w.toNatClampNeg)) (some (.int (nI (un τ 13 13 + 1)))) v M')) (Kx G (fun E M' => XP M (cd3 (isOfB τ x y) (inB z (lN 0) (lN 1439) && inB w (lN 1) (lN 1440)) (shB τ x y z w)) ["java/lang/IndexOutOfBoundsException", "java/lang/IllegalArgumentException", "java/lang/IllegalStateException"] E M')) ar ss 3 18 (gA G)) 7 M 0 0 31 [(0, .ref (α 0)), (1, .int x), (2, .int y), (3, .int z), (4, .int w)] [.int (bI (isOfB τ x y))] := by
    skip
    refine r_xS C hgX hno ml_X11_55 st_X11_needThere (c_X11_needThere l hfl G M (isOfB τ x y)) rfl (Nat.le_of_ble_eq_true rfl) ⟨Nat.le_of_ble_eq_true rfl, Nat.le_of_ble_eq_true rfl⟩ ⟨Nat.le_of_ble_eq_true rfl, Nat.le_of_ble_eq_true rfl⟩ dX11_shift_31 rfl (fun E_ M_ h_ => x_3a h_) ⟨Nat.le_of_ble_eq_true rfl, Nat.le_of_ble_eq_true rfl⟩ ?_
    rintro _ _ ⟨rfl, rfl, hq1⟩
    have hq := hq1
    obtain ⟨c, d, hc, hd1, hd2, e_x, e_y⟩ := isOf_t hw hq
    have hct := (hw.ct c hc).2
    have hco := hws.2.2.2.2.1 c hc
    have hcf := (hwt.1 c hc).1
    have hp0 : un τ 0 c < 6 := by have := (hw.cw c hc).2; omega
    refine V.eLo (lo' := [(0, .ref (α 0)), (1, .int (nI c)), (2, .int (nI d)), (3, .int z), (4, .int w)]) (by rw [e_x, e_y]) ?_
    have jn62 : V pp l ee ({ frames := 7, cells := 3, slots := 18, locals := 102 } : Room) ss mm ar bw mt cd G (vx_MQ bw (Ke G (fun v M' => PC τ G α M (cd3 (isOfB τ x y) (inB z (lN 0) (lN 1439) && inB w (lN 1) (lN 1440)) (shB τ x y z w)) ((shU τ x.toNatClampNeg y.toNatClampNeg z.toNatClampNeg w.toNatClampNeg)) (some (.int (nI (un τ 13 13 + 1)))) v M')) (Kx G (fun E M' => XP M (cd3 (isOfB τ x y) (inB z (lN 0) (lN 1439) && inB w (lN 1) (lN 1440)) (shB τ x y z w)) ["java/lang/IndexOutOfBoundsException", "java/lang/IllegalArgumentException", "java/lang/IllegalStateException"] E M')) ar ss 3 18 (gA G)) 7 M 1 6 62 [(0, .ref (α 0)), (1, .int (nI c)), (2, .int (nI d)), (3, .int z), (4, .int w)] [.int (bI (inB z (lN 0) (lN 1439) && inB w (lN 1) (lN 1440)))] := by
      skip
      refine r_xS C hgX hno ml_X11_64 st_X11_needFitting (c_X11_needFitting l hfl G M (inB z (lN 0) (lN 1439) && inB w (lN 1) (lN 1440))) rfl (Nat.le_of_ble_eq_true rfl) ⟨Nat.le_of_ble_eq_true rfl, Nat.le_of_ble_eq_true rfl⟩ ⟨Nat.le_of_ble_eq_true rfl, Nat.le_of_ble_eq_true rfl⟩ dX11_shift_62 rfl (fun E_ M_ h_ => x_3b hq h_) ⟨Nat.le_of_ble_eq_true rfl, Nat.le_of_ble_eq_true rfl⟩ ?_
      rintro _ _ ⟨rfl, rfl, hq2⟩
      have hq2 := hq2
      obtain ⟨hqm, hqn⟩ := Bool.and_eq_true_iff.mp hq2
      obtain ⟨m, hm0, hm, e_z⟩ := inB_N (by decide) (by decide) hqm
      obtain ⟨n, hn0, hn, e_w⟩ := inB_N (by decide) (by decide) hqn
      obtain ⟨sn, sk, hsk, hs10, hse⟩ := (hwt.1 c hc).2.2
      have hsnl : sn ≤ 40 := Nat.le_trans hsk.le h13
      have hse2 : ∀ j, j < sn → mI M (cO α c 5) j = nI (un τ 11 (sk j)) ∧ mI M (cO α c 6) j = nI (un τ 11 (sk j) + un τ 12 (sk j)) ∧ un τ 11 (sk j) < 2 ^ 30 ∧ un τ 11 (sk j) + un τ 12 (sk j) < 2 ^ 30 := fun j hj => by
          have hk := (hsk.1 j hj).1
          have a := (hw.sb _ hk).2
          have b := (hw.sl _ hk).1.2
          exact ⟨(hse j hj).1, (hse j hj).2, by omega, by omega⟩
      refine V.eLo (lo' := [(0, .ref (α 0)), (1, .int (nI c)), (2, .int (nI d)), (3, .int (nI m)), (4, .int (nI n))]) (by rw [e_z, e_w]) ?_
      refine r_aload_n C 0 dX11_shift_65 rfl rfl ?_
      refine r_getR C (b := (α 1)) fl_X11_10 rfl (hx.k 0 14 rfl) (hx.r 0 0 1 rfl) dX11_shift_66 ?_
      refine r_iload_n C 1 dX11_shift_69 rfl rfl ?_
      obtain ⟨d_, hd_, hkd_, hsn_, hn_, hri_⟩ := (hws.2.2.2.2.2.2.2.2.1).get (i := c) (by omega)
      refine r_callV C hgX (ci := 2) ml_X11_107 im_Jx4a65c_get_915e3 se_Jx4a65c_get_915e3 rfl rfl (hx.k 1 3 rfl) (c_Jx4a65c_get_915e3 l hfl G M (α 1) d_ _ c (cO α c 0) (un τ 9 9) (hws.2.2.2.2.2.2.2.2.1).1 hd_ (hws.2.2.2.2.2.2.2.2.1).2.1 hkd_ rfl hn_ hsn_ (by omega) hri_) rfl (Nat.le_of_ble_eq_true rfl) ⟨Nat.le_of_ble_eq_true rfl, Nat.le_of_ble_eq_true rfl⟩ ⟨Nat.le_of_ble_eq_true rfl, Nat.le_of_ble_eq_true rfl⟩ dX11_shift_70 rfl ?_
      rintro _ _ ⟨rfl, rfl⟩
      refine V.eSt (st' := [.ref (cO α c 0)]) rfl ?_
      refine r_cast C (ci := 5) rfl cl_X11_74 ((hco.k 0 6 rfl)) dX11_shift_73 ?_
      refine r_astore C (lo' := [(5, .ref (cO α c 0)), (0, .ref (α 0)), (1, .int (nI c)), (2, .int (nI d)), (3, .int (nI m)), (4, .int (nI n))]) dX11_shift_76 (by decide) rfl ?_
      refine r_iload_n C 3 dX11_shift_78 rfl rfl ?_
      refine r_sipush C (v := nI 1440) dX11_shift_79 (by decide) ?_
      refine r_imulN C dX11_shift_82 ?_
      refine r_iload_n C 4 dX11_shift_83 rfl rfl ?_
      refine r_iaddN C dX11_shift_84 ?_
      refine r_istore C (lo' := [(6, .int (nI (d * 1440 + m))), (5, .ref (cO α c 0)), (0, .ref (α 0)), (1, .int (nI c)), (2, .int (nI d)), (3, .int (nI m)), (4, .int (nI n))]) dX11_shift_85 (by decide) rfl ?_
      have jn116 : V pp l ee ({ frames := 7, cells := 3, slots := 18, locals := 102 } : Room) ss mm ar bw mt cd G (vx_MQ bw (Ke G (fun v M' => PC τ G α M (cd3 (isOfB τ x y) (inB z (lN 0) (lN 1439) && inB w (lN 1) (lN 1440)) (shB τ x y z w)) ((shU τ x.toNatClampNeg y.toNatClampNeg z.toNatClampNeg w.toNatClampNeg)) (some (.int (nI (un τ 13 13 + 1)))) v M')) (Kx G (fun E M' => XP M (cd3 (isOfB τ x y) (inB z (lN 0) (lN 1439) && inB w (lN 1) (lN 1440)) (shB τ x y z w)) ["java/lang/IndexOutOfBoundsException", "java/lang/IllegalArgumentException", "java/lang/IllegalStateException"] E M')) ar ss 3 18 (gA G)) 7 M 2 12 116 [(6, .int (nI (d * 1440 + m))), (5, .ref (cO α c 0)), (0, .ref (α 0)), (1, .int (nI c)), (2, .int (nI d)), (3, .int (nI m)), (4, .int (nI n))] [.int (bI (shB τ x y z w))] := by
        skip
        refine r_xS C hgX hno ml_X11_71 st_X11_needAllowed (c_X11_needAllowed l hfl G M (shB τ x y z w)) rfl (Nat.le_of_ble_eq_true rfl) ⟨Nat.le_of_ble_eq_true rfl, Nat.le_of_ble_eq_true rfl⟩ ⟨Nat.le_of_ble_eq_true rfl, Nat.le_of_ble_eq_true rfl⟩ dX11_shift_116 rfl (fun E_ M_ h_ => x_3c hq hq2 h_) ⟨Nat.le_of_ble_eq_true rfl, Nat.le_of_ble_eq_true rfl⟩ ?_
        rintro _ _ ⟨rfl, rfl, hq4⟩
        have hq3 := hq4
        have h40 : un τ 13 13 ≠ 40 := of_decide_eq_true (Bool.and_eq_true_iff.mp hq3).1
        refine r_aload C 1 dX11_shift_119 rfl ?_
        refine r_iload_n C 4 dX11_shift_121 rfl rfl ?_
        refine r_iload_n C 5 dX11_shift_122 rfl rfl ?_
        refine r_iload C 6 dX11_shift_123 rfl ?_
        refine r_callV C hgX (ci := 5) ml_X11_129 im_X3_addShift se_X3_addShift rfl rfl (hco.k 0 6 rfl) (c_X3_addShift l hfl G M (cO α c) hco τ c hcf.2.2.2.2.2.2.2 sn (by have := hsk.le; have := of_decide_eq_true (Bool.and_eq_true_iff.mp hq3).1; omega) hs10 d m n (by omega) (by omega) (by omega)) rfl (Nat.le_of_ble_eq_true rfl) ⟨Nat.le_of_ble_eq_true rfl, Nat.le_of_ble_eq_true rfl⟩ ⟨Nat.le_of_ble_eq_true rfl, Nat.le_of_ble_eq_true rfl⟩ dX11_shift_125 rfl ?_
        rintro _ My5 ⟨rfl, hfm5, hk05, hk105, hk115, hk55, hk65, hk45⟩
        have hfS := hfm5
        have hcX : frm (CoX2 α c) M My5 := hfm5.mono (fun a h => by rcases h with h | h | h | h; exact ⟨0, by decide, h⟩; exact ⟨4, by decide, h⟩; exact ⟨5, by decide, h⟩; exact ⟨6, by decide, h⟩)
        have hco0 := (hk05 0 (by decide) (by decide)).trans hcf.1
        have hwsO := hws
        have hws := hwsO.fr hcX (fun k hk => CoX2.lc hwsO.1 hc hk)
        have hx := hws.2.1
        have hco := hcX.blk hco
        have hbp := (hws.2.2.1 _ hp0).1
        have hbk := hws.bk hp0
        have hx06 : mI My5 (α 0) 6 = nI (un τ 13 13) := (congrFun (hcX.i (CoX2.no hwsO.1 hc (lv_s (by decide)) (by omega))) 6).trans hwx.1
        have hnbx : α 0 ≠ bO α (un τ 0 c) 0 := hwsO.1.ne (lv_s (by decide)) (lv_b hp0 (by decide)) (by omega)
        refine r_aload_n C 2 dX11_shift_128 rfl rfl ?_
        refine r_getR C (b := (α 2)) fl_X11_18 rfl (hx.k 0 14 rfl) (hx.r 0 1 2 rfl) dX11_shift_129 ?_
        refine r_aload C 1 dX11_shift_132 rfl ?_
        refine r_getI C fl_X11_115 rfl (hco.k 0 6 rfl) dX11_shift_134 ?_
        refine V.ei (y := nI (un τ 0 c)) (hco0) ?_
        refine r_aaloadN C (b := (hO α (un τ 0 c) 0)) 1 (by decide) (hx.k 2 24 rfl) (hx.n 2 6 rfl) (by omega) (by omega) (hws.2.2.1 (un τ 0 c) (by omega)).2 dX11_shift_137 ?_
        refine r_getR C (b := (bO α (un τ 0 c) 0)) fl_X11_94 rfl (hbp.k 0 11 rfl) (hbp.r 0 10 15 rfl) dX11_shift_138 ?_
        refine r_iconst C (v := nI 1) dX11_shift_141 (by decide) ?_
        refine r_putZ C fl_X11_98 (by decide) (hbk.k 0 4 rfl) dX11_shift_142 ?_
        refine r_aload_n C 2 dX11_shift_145 rfl rfl ?_
        refine r_dup C dX11_shift_146 rfl ?_
        refine r_getI C fl_X11_122 rfl (hx.k 0 14 rfl) dX11_shift_147 ?_
        refine V.ei (y := nI (un τ 13 13)) ((congrFun (wI_a hnbx) 6).trans hx06) ?_
        refine r_iconst C (v := nI 1) dX11_shift_150 (by decide) ?_
        refine r_iaddN C dX11_shift_151 ?_
        refine r_putI C fl_X11_122 (hx.k 0 14 rfl) dX11_shift_152 ?_
        refine r_aload_n C 2 dX11_shift_155 rfl rfl ?_
        refine r_getI C fl_X11_122 rfl (hx.k 0 14 rfl) dX11_shift_156 ?_
        refine V.ei (y := nI (un τ 13 13 + 1)) (wI_i) ?_
        refine V.xret ?_
        exact r_iret C hr (⟨k_3 hq hq2 hq3, rfl, α, by rw [e_x, e_y, e_z, e_w, nI_clamp (n := c) (by omega), nI_clamp (n := d) (by omega), nI_clamp (n := m) (by omega), nI_clamp (n := n) (by omega)]; exact sh_w hc hd1 hd2 hm ⟨hn0, hn⟩ h40 hw hwsO hwt hwb hsk hse hfS hk05 hk105 hk115 hk55 hk65 hk45, rfl, CF.tr2 hcX (((frm.rf (fun y => y = bO α (un τ 0 c) 0 ∨ y = α 0) _).wi 0 (nI 1) (.inl rfl)).wi 6 (nI (un τ 13 13 + 1)) (.inr rfl)) (fun a h => CoX2.lv hc h) (fun a h => h.elim (fun h => ⟨_, lv_b hp0 (show 0 < 42 by decide), h⟩) (fun h => ⟨0, lv_s (by decide), h⟩)), fun _ _ hz_ k_ hk_ => hz_ k_ (by unfold shU at hk_; split at hk_ <;> exact hk_)⟩) (by first | exact Nat.zero_le _ | decide) (by first | exact Nat.zero_le _ | decide) dX11_shift_159
      refine r_aload_n C 2 dX11_shift_87 rfl rfl ?_
      refine r_getI C fl_X11_122 rfl (hx.k 0 14 rfl) dX11_shift_88 ?_
      refine V.ei (y := nI (un τ 13 13)) (hwx.1) ?_
      refine r_bipush C (v := nI 40) dX11_shift_91 (by decide) ?_
      refine r_icmp_geN C (t := 115) (by omega) (by omega) dX11_shift_93 (by decide) (fun c93 => ?_) (fun c93 => ?_)
      · skip
        refine r_iconst C (v := nI 0) dX11_shift_115 (by decide) ?_
        refine V.eSt (st' := [.int (bI false)]) rfl ?_
        refine V.ei (y := bI (shB τ x y z w)) (congrArg bI (by unfold shB; rw [e_x, e_y, e_z, e_w, nI_clamp (n := c) (by omega), nI_clamp (n := d) (by omega), nI_clamp (n := m) (by omega), nI_clamp (n := n) (by omega), decide_eq_false (show ¬ un τ 13 13 ≠ 40 by omega)]; rfl)) ?_
        exact jn116
      · skip
        refine r_aload C 1 dX11_shift_96 rfl ?_
        refine r_iload C 0 dX11_shift_98 rfl ?_
        refine r_iload C 0 dX11_shift_100 rfl ?_
        refine r_iload C 6 dX11_shift_102 rfl ?_
        refine r_iaddN C dX11_shift_104 ?_
        refine r_callV C hgX (ci := 5) ml_X11_125 im_X3_isFree se_X3_isFree rfl rfl (hco.k 0 6 rfl) (c_X3_isFree l hfl G M (cO α c) hco sn hsnl (fun j => un τ 11 (sk j)) (fun j => un τ 11 (sk j) + un τ 12 (sk j)) hs10 hse2 (d * 1440 + m) (d * 1440 + m + n) (by omega) (by omega)) rfl (Nat.le_of_ble_eq_true rfl) ⟨Nat.le_of_ble_eq_true rfl, Nat.le_of_ble_eq_true rfl⟩ ⟨Nat.le_of_ble_eq_true rfl, Nat.le_of_ble_eq_true rfl⟩ dX11_shift_105 rfl ?_
        rintro _ _ ⟨rfl, rfl⟩
        refine V.eSt (st' := [.int (bI (!anyN (fun j => decide ((d * 1440 + m) < un τ 11 (sk j) + un τ 12 (sk j) ∧ un τ 11 (sk j) < (d * 1440 + m + n))) sn))]) rfl ?_
        refine r_if_eqB C (t := 115) dX11_shift_108 (by decide) (fun c108 => ?_) (fun c108 => ?_)
        · skip
          have c108e : anyN (fun j => decide (1440 * d + m < un τ 11 (sk j) + un τ 12 (sk j) ∧ un τ 11 (sk j) < 1440 * d + m + n)) sn = true := by simpa [Nat.mul_comm] using c108
          refine r_iconst C (v := nI 0) dX11_shift_115 (by decide) ?_
          refine V.eSt (st' := [.int (bI false)]) rfl ?_
          refine V.ei (y := bI (shB τ x y z w)) (congrArg bI (by unfold shB; rw [e_x, e_y, e_z, e_w, nI_clamp (n := c) (by omega), nI_clamp (n := d) (by omega), nI_clamp (n := m) (by omega), nI_clamp (n := n) (by omega), decide_eq_true (show un τ 13 13 ≠ 40 by omega), ← sh_any hsk, c108e]; rfl)) ?_
          exact jn116
        · skip
          have c108e : anyN (fun j => decide (1440 * d + m < un τ 11 (sk j) + un τ 12 (sk j) ∧ un τ 11 (sk j) < 1440 * d + m + n)) sn = false := by simpa [Nat.mul_comm] using c108
          refine r_iconst C (v := nI 1) dX11_shift_111 (by decide) ?_
          refine r_goto C (t := 116) dX11_shift_112 (by decide) ?_
          refine V.eSt (st' := [.int (bI true)]) rfl ?_
          refine V.ei (y := bI (shB τ x y z w)) (congrArg bI (by unfold shB; rw [e_x, e_y, e_z, e_w, nI_clamp (n := c) (by omega), nI_clamp (n := d) (by omega), nI_clamp (n := m) (by omega), nI_clamp (n := n) (by omega), decide_eq_true (show un τ 13 13 ≠ 40 by omega), ← sh_any hsk, c108e]; rfl)) ?_
          exact jn116
    refine r_iload_n C 3 dX11_shift_34 rfl rfl ?_
    refine r_iconst C (v := nI 0) dX11_shift_35 (by decide) ?_
    refine r_sipush C (v := nI 1439) dX11_shift_36 (by decide) ?_
    refine r_callS C hgX ml_X11_59 st_X11_isWithin (c_X11_isWithin l hfl G M z (nI 0) (nI 1439)) rfl (Nat.le_of_ble_eq_true rfl) ⟨Nat.le_of_ble_eq_true rfl, Nat.le_of_ble_eq_true rfl⟩ ⟨Nat.le_of_ble_eq_true rfl, Nat.le_of_ble_eq_true rfl⟩ dX11_shift_39 rfl ?_
    rintro _ _ ⟨rfl, rfl⟩
    refine V.eSt (st' := [.int (bI (inB z (nI 0).toInt64 (nI 1439).toInt64))]) rfl ?_
    refine V.ei (y := bI (inB z (lN 0) (lN 1439))) rfl ?_
    refine r_if_eqB C (t := 61) dX11_shift_42 (by decide) (fun c42 => ?_) (fun c42 => ?_)
    · skip
      refine r_iconst C (v := nI 0) dX11_shift_61 (by decide) ?_
      refine V.eSt (st' := [.int (bI false)]) rfl ?_
      refine V.ei (y := bI (inB z (lN 0) (lN 1439) && inB w (lN 1) (lN 1440))) (congrArg bI (by simp [c42])) ?_
      exact jn62
    · skip
      refine r_iload C 4 dX11_shift_45 rfl ?_
      refine r_iconst C (v := nI 1) dX11_shift_47 (by decide) ?_
      refine r_sipush C (v := nI 1440) dX11_shift_48 (by decide) ?_
      refine r_callS C hgX ml_X11_59 st_X11_isWithin (c_X11_isWithin l hfl G M w (nI 1) (nI 1440)) rfl (Nat.le_of_ble_eq_true rfl) ⟨Nat.le_of_ble_eq_true rfl, Nat.le_of_ble_eq_true rfl⟩ ⟨Nat.le_of_ble_eq_true rfl, Nat.le_of_ble_eq_true rfl⟩ dX11_shift_51 rfl ?_
      rintro _ _ ⟨rfl, rfl⟩
      refine V.eSt (st' := [.int (bI (inB w (nI 1).toInt64 (nI 1440).toInt64))]) rfl ?_
      refine V.ei (y := bI (inB w (lN 1) (lN 1440))) rfl ?_
      refine r_if_eqB C (t := 61) dX11_shift_54 (by decide) (fun c54 => ?_) (fun c54 => ?_)
      · skip
        refine r_iconst C (v := nI 0) dX11_shift_61 (by decide) ?_
        refine V.eSt (st' := [.int (bI false)]) rfl ?_
        refine V.ei (y := bI (inB z (lN 0) (lN 1439) && inB w (lN 1) (lN 1440))) (congrArg bI (by simp [c42, c54])) ?_
        exact jn62
      · skip
        refine r_iconst C (v := nI 1) dX11_shift_57 (by decide) ?_
        refine r_goto C (t := 62) dX11_shift_58 (by decide) ?_
        refine V.eSt (st' := [.int (bI true)]) rfl ?_
        refine V.ei (y := bI (inB z (lN 0) (lN 1439) && inB w (lN 1) (lN 1440))) (congrArg bI (by simp [c42, c54])) ?_
        exact jn62
  refine r_aload_n C 0 dX11_shift_0 rfl rfl ?_
  refine r_iload_n C 1 dX11_shift_1 rfl rfl ?_
  refine r_callV C hgX (ci := 13) ml_X11_104 im_X11_isContract se_X11_isContract rfl rfl (hx.k 0 14 rfl) (c_X11_isContract l hfl G M τ hw α hws hwt hwb had x) rfl (Nat.le_of_ble_eq_true rfl) ⟨Nat.le_of_ble_eq_true rfl, Nat.le_of_ble_eq_true rfl⟩ ⟨Nat.le_of_ble_eq_true rfl, Nat.le_of_ble_eq_true rfl⟩ dX11_shift_2 rfl ?_
  rintro _ _ ⟨rfl, rfl⟩
  refine V.eSt (st' := [.int (bI (rng x (un τ 9 9)))]) rfl ?_
  refine r_if_eqB C (t := 30) dX11_shift_5 (by decide) (fun c5 => ?_) (fun c5 => ?_)
  · skip
    refine r_iconst C (v := nI 0) dX11_shift_30 (by decide) ?_
    refine V.eSt (st' := [.int (bI false)]) rfl ?_
    refine V.ei (y := bI (isOfB τ x y)) (congrArg bI (by unfold isOfB; rw [c5]; rfl)) ?_
    exact jn31
  · skip
    obtain ⟨c, hc, e_x⟩ := rng_t c5
    have hco := hws.2.2.2.2.1 c hc
    have hcf := (hwt.1 c hc).1
    refine r_aload_n C 0 dX11_shift_8 rfl rfl ?_
    refine r_getR C (b := (α 1)) fl_X11_10 rfl (hx.k 0 14 rfl) (hx.r 0 0 1 rfl) dX11_shift_9 ?_
    refine r_iload_n C 1 dX11_shift_12 rfl rfl ?_
    refine V.ei (y := nI c) e_x ?_
    obtain ⟨d_, hd_, hkd_, hsn_, hn_, hri_⟩ := (hws.2.2.2.2.2.2.2.2.1).get (i := c) (by omega)
    refine r_callV C hgX (ci := 2) ml_X11_107 im_Jx4a65c_get_915e3 se_Jx4a65c_get_915e3 rfl rfl (hx.k 1 3 rfl) (c_Jx4a65c_get_915e3 l hfl G M (α 1) d_ _ c (cO α c 0) (un τ 9 9) (hws.2.2.2.2.2.2.2.2.1).1 hd_ (hws.2.2.2.2.2.2.2.2.1).2.1 hkd_ rfl hn_ hsn_ (by omega) hri_) rfl (Nat.le_of_ble_eq_true rfl) ⟨Nat.le_of_ble_eq_true rfl, Nat.le_of_ble_eq_true rfl⟩ ⟨Nat.le_of_ble_eq_true rfl, Nat.le_of_ble_eq_true rfl⟩ dX11_shift_13 rfl ?_
    rintro _ _ ⟨rfl, rfl⟩
    refine V.eSt (st' := [.ref (cO α c 0)]) rfl ?_
    refine r_cast C (ci := 5) rfl cl_X11_74 ((hco.k 0 6 rfl)) dX11_shift_16 ?_
    refine r_iload_n C 2 dX11_shift_19 rfl rfl ?_
    refine r_callV C hgX (ci := 5) ml_X11_119 im_X3_covers se_X3_covers rfl rfl (hco.k 0 6 rfl) (c_X3_covers l hfl G M (cO α c) hco τ hw c hc hcf y) rfl (Nat.le_of_ble_eq_true rfl) ⟨Nat.le_of_ble_eq_true rfl, Nat.le_of_ble_eq_true rfl⟩ ⟨Nat.le_of_ble_eq_true rfl, Nat.le_of_ble_eq_true rfl⟩ dX11_shift_20 rfl ?_
    rintro _ _ ⟨rfl, rfl⟩
    refine V.eSt (st' := [.int (bI (cvB τ c y))]) rfl ?_
    refine r_if_eqB C (t := 30) dX11_shift_23 (by decide) (fun c23 => ?_) (fun c23 => ?_)
    · skip
      refine r_iconst C (v := nI 0) dX11_shift_30 (by decide) ?_
      refine V.eSt (st' := [.int (bI false)]) rfl ?_
      refine V.ei (y := bI (isOfB τ x y)) (congrArg bI (by show _ = (rng x (un τ 9 9) && cvB τ x.toNatClampNeg y); rw [c5, e_x, nI_clamp (n := c) (by omega), c23]; rfl)) ?_
      exact jn31
    · skip
      refine r_iconst C (v := nI 1) dX11_shift_26 (by decide) ?_
      refine r_goto C (t := 31) dX11_shift_27 (by decide) ?_
      refine V.eSt (st' := [.int (bI true)]) rfl ?_
      refine V.ei (y := bI (isOfB τ x y)) (congrArg bI (by show _ = (rng x (un τ 9 9) && cvB τ x.toNatClampNeg y); rw [c5, e_x, nI_clamp (n := c) (by omega), c23]; rfl)) ?_
      exact jn31

