set_option maxHeartbeats 1000000 in
set_option maxRecDepth 100000 in
theorem c_L_same (l : Launch) (hfl : l.flags = flags0) (G : gW) (M : Mem) (a b : Nat) (ha : mK M a = 20) (ha2 : mN M a = 24) (hb : mK M b = 20) (hb2 : mN M b = 24) (he : ∀ k, k < 24 → mI M a k = mI M b k) : CT l yL_same cL_same 3 (some .boolean) 0 0 0 0 G M [.ref a, .ref b] (fun v M' => v = some (.int (nI 1)) ∧ M = M') := by
  refine CT.of hfl rfl (Nat.le_of_ble_eq_true rfl) ?_
  intro pp ee ss mm ar bw mt cd C hgX hr hini
  refine V.eLo (lo' := [(0, .ref a), (1, .ref b)]) rfl ?_
  refine r_iconst C (v := nI 0) dL_same_0 (by decide) ?_
  refine r_istore_n C (lo' := [(2, .int (nI 0)), (0, .ref a), (1, .ref b)]) dL_same_1 rfl (by decide) rfl ?_
  have lp2 : ∀ (k2 : Nat) (k : Nat) (hk24 : k ≤ 24), 24 - k < k2 → V pp l ee ({ frames := 0, cells := 0, slots := 0, locals := 0 } : Room) ss mm ar bw mt cd G (MQ bw (Ke G (fun v M' => v = some (.int (nI 1)) ∧ M = M')) ar ss 0 0 (gA G)) 3 M 0 0 2 [(0, .ref a), (1, .ref b), (2, .int (nI k))] [] := by
    intro k2
    induction k2 with
    | zero => intro k hk24 hz2; exact absurd hz2 (Nat.not_lt_zero _)
    | succ k2 ih2 =>
      intro k hk24 hz2
      refine r_iload_n C 2 dL_same_2 rfl rfl ?_
      refine r_bipush C (v := nI 24) dL_same_3 (by decide) ?_
      refine r_icmp_geN C (t := 25) (by omega) (by omega) dL_same_5 (by decide) (fun c5 => ?_) (fun c5 => ?_)
      · skip
        refine r_iconst C (v := nI 1) dL_same_25 (by decide) ?_
        exact r_zret C hr (by decide) (⟨rfl, rfl⟩) (by first | exact Nat.zero_le _ | decide) (by first | exact Nat.zero_le _ | decide) dL_same_26
      · skip
        refine r_aload_n C 0 dL_same_8 rfl rfl ?_
        refine r_iload_n C 2 dL_same_9 rfl rfl ?_
        refine r_ialoadN C ha ha2 (by omega) (by omega) dL_same_10 ?_
        refine r_aload_n C 1 dL_same_11 rfl rfl ?_
        refine r_iload_n C 2 dL_same_12 rfl rfl ?_
        refine r_ialoadN C hb hb2 (by omega) (by omega) dL_same_13 ?_
        refine r_icmp_eq C (t := 19) dL_same_14 (by decide) (fun c14 => ?_) (fun c14 => ?_)
        · skip
          refine r_iinc C (v := nI (k + 1)) (lo' := [(2, .int (nI (k + 1))), (0, .ref a), (1, .ref b)]) 2 dL_same_19 rfl (nI_addI k 1) (by decide) rfl ?_
          refine r_goto C (t := 2) dL_same_22 (by decide) ?_
          refine V.sub [1, 2, 0] (lo' := [(0, .ref a), (1, .ref b), (2, .int (nI (k + 1)))]) rfl ?_
          exact ih2 (k + 1) (by omega) (by omega)
        · exact absurd (he k (by omega)) c14
  refine V.sub [1, 2, 0] (lo' := [(0, .ref a), (1, .ref b), (2, .int (nI 0))]) rfl ?_
  exact lp2 _ 0 (by omega) (Nat.lt_succ_self _)
/-- what is owed now -/
def odL (τ : Mu) (p : Nat) : Int64 := pdL τ p (sumL (pyL τ p) ((if un τ 46 46 = 24 then 23 else un τ 46 46) + 1)) (un τ 51 51)
/-- what tell tells -/
def tlV (τ : Mu) (k : Nat) : Int32 := if k < 3 then (odL τ k).toInt32 else if k < 6 then (slL τ (k - 3) 3 4).toInt32 else if k < 9 then nI (leftN τ (k - 6) 400) else if k < 12 then (τ.2 52 (24 * (k - 9) + 1)).toInt32 else if k < 15 then (slL τ (k - 12) 13 6).toInt32 else if k = 15 then nI (un τ 46 46) else if k = 16 then nI (un τ 51 51) else 0
def tlP (τ : Mu) (p k : Nat) : Int32 := if k < 15 ∧ k % 3 < p then tlV τ k else 0
theorem tlV_0 {τ : Mu} {p : Nat} (h : p < 3) : tlV τ p = (odL τ p).toInt32 := if_pos h
theorem tlV_3 {τ : Mu} {p : Nat} (h : p < 3) : tlV τ (3 + p) = (slL τ p 3 4).toInt32 := by
  unfold tlV; rw [if_neg (by omega), if_pos (by omega), show 3 + p - 3 = p by omega]
theorem tlV_6 {τ : Mu} {p : Nat} (h : p < 3) : tlV τ (6 + p) = nI (leftN τ p 400) := by
  unfold tlV; rw [if_neg (by omega), if_neg (by omega), if_pos (by omega), show 6 + p - 6 = p by omega]
theorem tlV_9 {τ : Mu} {p : Nat} (h : p < 3) : tlV τ (9 + p) = (τ.2 52 (24 * p + 1)).toInt32 := by
  unfold tlV; rw [if_neg (by omega), if_neg (by omega), if_neg (by omega), if_pos (by omega), show 9 + p - 9 = p by omega]
theorem tlV_12 {τ : Mu} {p : Nat} (h : p < 3) : tlV τ (12 + p) = (slL τ p 13 6).toInt32 := by
  unfold tlV; rw [if_neg (by omega), if_neg (by omega), if_neg (by omega), if_neg (by omega), if_pos (by omega), show 12 + p - 12 = p by omega]
theorem wI_z {M : Mem} {z j k : Nat} {v : Int32} : mI (wI M z j v) z k = if k = j then v else mI M z k := by
  show up2 _ z j v z k = _
  unfold up2
  rw [if_pos rfl]
theorem tl_step {τ : Mu} {p : Nat} {f : Nat → Int32} (hp : p < 3) (h : ∀ k, k < 24 → f k = tlP τ p k) : ∀ k, k < 24 → (if k = 12 + p then (slL τ p 13 6).toInt32 else if k = 9 + p then (τ.2 52 (24 * p + 1)).toInt32 else if k = 6 + p then nI (leftN τ p 400) else if k = 3 + p then (slL τ p 3 4).toInt32 else if k = p then (odL τ p).toInt32 else f k) = tlP τ (p + 1) k := by
  intro k hk
  have hs : ∀ x, x < 15 → x % 3 = p → tlP τ (p + 1) x = tlV τ x := fun x h1 h2 => if_pos ⟨h1, by omega⟩
  by_cases h12 : k = 12 + p
  · rw [if_pos h12, h12, hs _ (by omega) (by omega), tlV_12 hp]
  rw [if_neg h12]
  by_cases h9 : k = 9 + p
  · rw [if_pos h9, h9, hs _ (by omega) (by omega), tlV_9 hp]
  rw [if_neg h9]
  by_cases h6 : k = 6 + p
  · rw [if_pos h6, h6, hs _ (by omega) (by omega), tlV_6 hp]
  rw [if_neg h6]
  by_cases h3 : k = 3 + p
  · rw [if_pos h3, h3, hs _ (by omega) (by omega), tlV_3 hp]
  rw [if_neg h3]
  by_cases h0 : k = p
  · rw [if_pos h0, h0, hs _ (by omega) (by omega), tlV_0 hp]
  rw [if_neg h0, h k hk]
  unfold tlP
  by_cases z : k < 15 ∧ k % 3 < p
  · rw [if_pos z, if_pos ⟨z.1, by omega⟩]
  · rw [if_neg z, if_neg (fun y => z ⟨y.1, by omega⟩)]
theorem tl_end {τ : Mu} {f : Nat → Int32} (h : ∀ k, k < 24 → f k = tlP τ 3 k) : ∀ k, k < 24 → (if k = 16 then nI (un τ 51 51) else if k = 15 then nI (un τ 46 46) else f k) = tlV τ k := by
  intro k hk
  by_cases h16 : k = 16
  · rw [if_pos h16, h16]; rfl
  rw [if_neg h16]
  by_cases h15 : k = 15
  · rw [if_pos h15, h15]; rfl
  rw [if_neg h15, h k hk]
  unfold tlP
  by_cases z : k < 15
  · rw [if_pos ⟨z, by omega⟩]
  · rw [if_neg (fun y => z y.1)]
    unfold tlV
    rw [if_neg (by omega), if_neg (by omega), if_neg (by omega), if_neg (by omega), if_neg z, if_neg h15, if_neg h16]
theorem KP.new {M : Mem} {z κ n : Nat} (hz : ∀ a, z ≤ a → mK M a = 0) : KP (fun _ => False) (fun _ => False) M (wMk (mMk M z) z κ n) := fun x hx => by
  have hxz : x < z := by
    apply Classical.byContradiction
    intro h
    exact hx (hz x (by omega))
  have h1 : x ≠ z := by omega
  have h2 : x ≠ z + 1 := by omega
  exact ⟨va_up_ne _ _ h1, (va_up_ne _ _ h2).trans ((va_up_ne _ _ h1).trans (va_up_ne _ _ h1)), fun _ => ⟨va_up_ne _ _ h1, va_up_ne _ _ h1⟩, fun _ => va_up_ne _ _ h1⟩
theorem WS.kp {τ : Mu} {G : gW} {α : Nat → Nat} {M M' : Mem} (hw : WF τ) (ws : WS τ G α M) (kp : KP (fun _ => False) (fun _ => False) M M') : WS τ G α M' := by
  obtain ⟨sz, el, ix, hl⟩ := ws.ls
  have lz := hl.1.kp (A := fun _ => False) (B := fun _ => False) kp (fun _ _ h => h) (fun _ _ h => h)
  exact WS.grow hw ws (fun _ _ => rfl) (fun k hk => ⟨(kp _ (ws.kn hk)).1, (kp _ (ws.kn hk)).2.1, fun _ => (kp _ (ws.kn hk)).2.2.2 id⟩) ws.1 (fun c hc => .inl hc) (fun g hg => .inl hg) (fun k hk => .inl ⟨hk, rfl⟩) (fun k hk => .inl hk) (sz := sz) (el := el) (ix := ix) ⟨lz, hl.2⟩
theorem WD.kp {τ : Mu} {G : gW} {α : Nat → Nat} {M M1 : Mem} (hw : WF τ) (w : WD τ G α M) (kp : KP (fun _ => False) (fun _ => False) M M1) : WD τ G α M1 := by
  have h9 := hw.nc.2
  have h44 := hw.ng.2
  have h17 := hw.nl.2
  have h51 := hw.np.2
  obtain ⟨ws, ⟨w1, w2, w3, w4, w5⟩, wb⟩ := w
  have i : ∀ k, LV τ k → mI M1 (α k) = mI M (α k) := fun k hk => ((kp _ (ws.kn hk)).2.2.1 id).1
  have l : ∀ k, LV τ k → mL M1 (α k) = mL M (α k) := fun k hk => ((kp _ (ws.kn hk)).2.2.1 id).2
  refine ⟨ws.kp hw kp, ⟨fun c hc => (w1 c hc).cg (fun k _ => congrFun (i _ (lv_c hc (show 0 < 10 by decide))) k) (fun o _ ho => i _ (lv_c hc (show o < 10 by omega))), fun r hr => (w2 r hr).cg (fun o ho => i _ (lv_h hr (show o < 57 by omega))) (fun o ho => l _ (lv_h hr (show o < 57 by omega))), fun x hx => (w3 x hx).cg (fun o ho => i _ (lv_g hx ho)) (fun o ho => l _ (lv_g hx ho)), ?_, w5.cg (fun k hk => congrFun (i _ (lv_l hk)) 1) (fun g hg => i _ (lv_a hg (show 0 < 2 by decide))) (fun k hk => ⟨i _ (lv_y hk), l _ (lv_y hk)⟩)⟩, fun c hc z => ?_, fun r hr z => ?_⟩
  · obtain ⟨b1, b2, b3, b4, b5, b6, b7⟩ := w4
    unfold WTx
    rw [i 0 (lv_s (by decide))]
    exact ⟨b1, b2, b3, b4, b5, b6, b7.cgs (fun o ho => i (4 + o) (lv_s (by omega)))⟩
  · have e0 : mI M1 (cO α c 0) = mI M (cO α c 0) := i _ (lv_c hc (by decide))
    have e7 : mL M1 (cO α c 7) = mL M (cO α c 7) := l _ (lv_c hc (by decide))
    have e8 : mI M1 (cO α c 8) = mI M (cO α c 8) := i _ (lv_c hc (by decide))
    have g := wb.1 c hc (by rw [← e0]; exact z)
    intro m hm
    rw [e7, e8]
    exact g m hm
  · refine BF.cg (fun o ho => ⟨i _ (lv_b hr ho), l _ (lv_b hr ho)⟩) (fun g hg _ => l _ (lv_a hg (by decide))) (fun c hc _ => ⟨i _ (lv_c hc (show 8 < 10 by decide)), l _ (lv_c hc (show 7 < 10 by decide)), l _ (lv_c hc (show 9 < 10 by decide))⟩) (fun k hk _ => congrFun (i _ (lv_l hk)) 2) (wb.2 r hr ?_)
    have e0 : mI M1 (bO α r 0) = mI M (bO α r 0) := i _ (lv_b hr (by decide))
    rw [← e0]; exact z
/-- a new array beside the class -/
theorem OW.new {τ : Mu} {G : gW} {q z n : Nat} {F : Nat → Prop} {M : Mem} (hw : WF τ) (h : OW τ G q F M) (hz : ∀ a, z ≤ a → mK M a = 0) : OW τ G q (fun a => F a ∨ a = z) (wMk (mMk M z) z 20 n) ∧ KF F M (wMk (mMk M z) z 20 n) := by
  obtain ⟨α, h1, h2, h3⟩ := h
  have kp := KP.new (κ := 20) (n := n) hz
  have nz : ∀ a, F a → a ≠ z := fun a ha e => (h3 a ha).1 (e ▸ hz z (Nat.le_refl _))
  refine ⟨⟨α, h1.kp hw kp, h2, fun a ha => ?_⟩, fun a ha => ?_⟩
  · rcases ha with ha | rfl
    · obtain ⟨a1, a2, a3⟩ := h3 a ha
      have e := (kp a a1).1
      exact ⟨by rw [e]; exact a1, by rw [e]; exact a2, a3⟩
    · have e : mK (wMk (mMk M a) a 20 n) a = 20 := va_up_self _ _ _
      exact ⟨by rw [e]; decide, by rw [e]; decide, fun k hk e2 => h1.1.kn hk (by rw [← e2]; exact hz a (Nat.le_refl _))⟩
  · obtain ⟨b1, b2, b3, b4⟩ := kp a (h3 a ha).1
    exact ⟨b1, b2, (b3 id).1, (b3 id).2, b4 id⟩
theorem KF.wz {F : Nat → Prop} {M M' : Mem} {z k : Nat} {v : Int32} (h : KF F M M') (hz : ¬ F z) : KF F M (wI M' z k v) := fun a ha => by
  obtain ⟨a1, a2, a3, a4, a5⟩ := h a ha
  exact ⟨a1, a2, (up2_row _ _ (fun e => hz (by rw [← e]; exact ha))).trans a3, a4, a5⟩
set_option maxHeartbeats 1000000 in
set_option maxRecDepth 100000 in
theorem c_L_tell (l : Launch) (hfl : l.flags = flags0) (G : gW) (M : Mem) (τ : Mu) (hw : WF τ) (had : ∀ p, p < 6 → AD τ p) (q : Nat) (F : Nat → Prop) (hO : OW τ G q F M) : CT l yL_tell cL_tell 3 (some (.array .int)) 8 22 150 211 G M [.ref q] (fun v M' => ∃ z, v = some (.ref z) ∧ mK M z = 0 ∧ OW τ G q (fun a_ => F a_ ∨ a_ = z) M' ∧ KF F M M' ∧ mK M' z = 20 ∧ mN M' z = 24 ∧ ∀ k_, k_ < 24 → mI M' z k_ = tlV τ k_) := by
  refine CT.of hfl rfl (Nat.le_of_ble_eq_true rfl) ?_
  intro pp ee ss mm ar bw mt cd C hgX hr hini
  refine V.eLo (lo' := [(0, .ref q)]) rfl ?_
  refine r_bipush C (v := nI 24) dL_tell_0 (by decide) ?_
  refine V.mark C (fun z hzb hzf => ?_)
  have hnz : ¬ F z := fun h_ => by obtain ⟨_, _, _, h3_⟩ := hO; exact (h3_ z h_).1 (hzf z (Nat.le_refl _))
  refine r_newarr C (q := z) 0 (by decide) rfl ac_int (by decide) (hzb) (hzf z (Nat.le_refl _)) (va_up_self _ _ _) (Nat.le_of_ble_eq_true rfl) (Nat.le_of_ble_eq_true rfl) dL_tell_2 ?_
  refine r_astore_n C (lo' := [(1, .ref z), (0, .ref q)]) dL_tell_4 rfl (by decide) rfl ?_
  refine r_iconst C (v := nI 0) dL_tell_5 (by decide) ?_
  refine r_istore_n C (lo' := [(2, .int (nI 0)), (1, .ref z), (0, .ref q)]) dL_tell_6 rfl (by decide) rfl ?_
  have lp7 : ∀ (k7 : Nat) (Mx : Mem) (p : Nat) (hp : p ≤ 3) (hOx : OW τ G q (fun a_ => F a_ ∨ a_ = z) Mx) (hgx : KF F M Mx) (hKx : mK Mx z = 20) (hNx : mN Mx z = 24) (hv : ∀ k_, k_ < 24 → mI Mx z k_ = tlP τ p k_), 3 - p < k7 → V pp l ee ({ frames := 8, cells := 22, slots := 150, locals := 211 } : Room) ss mm ar bw mt cd G (MQ bw (Ke G (fun v M' => ∃ z, v = some (.ref z) ∧ mK M z = 0 ∧ OW τ G q (fun a_ => F a_ ∨ a_ = z) M' ∧ KF F M M' ∧ mK M' z = 20 ∧ mN M' z = 24 ∧ ∀ k_, k_ < 24 → mI M' z k_ = tlV τ k_)) ar ss 22 150 (gA G)) 3 Mx (1 + 7 * p) (24 + 42 * p) 7 [(0, .ref q), (1, .ref z), (2, .int (nI p))] [] := by
    intro k7
    induction k7 with
    | zero => intro Mx p hp hOx hgx hKx hNx hv hz7; exact absurd hz7 (Nat.not_lt_zero _)
    | succ k7 ih7 =>
      intro Mx p hp hOx hgx hKx hNx hv hz7
      refine r_iload_n C 2 dL_tell_7 rfl rfl ?_
      refine r_iconst C (v := nI 3) dL_tell_8 (by decide) ?_
      refine r_icmp_geN C (t := 84) (by omega) (by omega) dL_tell_9 (by decide) (fun c9 => ?_) (fun c9 => ?_)
      · skip
        have hp3 : p = 3 := by omega
        subst hp3
        refine r_aload_n C 1 dL_tell_84 rfl rfl ?_
        refine r_bipush C (v := nI 15) dL_tell_85 (by decide) ?_
        refine r_aload_n C 0 dL_tell_87 rfl rfl ?_
        refine rq_open C hgX hfl hw had hOx ml_L_72  (Nat.le_of_ble_eq_true rfl) ⟨Nat.le_of_ble_eq_true rfl, Nat.le_of_ble_eq_true rfl⟩ ⟨by dsimp only; omega, by dsimp only; omega⟩ dL_tell_88 ?_
        intro Mq1 hO1 hk1
        have hi1 : ∀ k_, mI Mq1 z k_ = mI Mx z k_ := fun k_ => congrFun (hk1 z (Or.inr rfl)).2.2.1 k_
        have hK1 : mK Mq1 z = 20 := (hk1 z (Or.inr rfl)).1.trans hKx
        have hN1 : mN Mq1 z = 24 := (hk1 z (Or.inr rfl)).2.1.trans hNx
        have hg1 : KF F M Mq1 := hgx.tr (hk1.mono (fun _ h_ => Or.inl h_))
        refine r_iastoreN C hK1 hN1 (by decide) (by omega) dL_tell_91 ?_
        refine r_aload_n C 1 dL_tell_92 rfl rfl ?_
        refine r_bipush C (v := nI 16) dL_tell_93 (by decide) ?_
        refine r_aload_n C 0 dL_tell_95 rfl rfl ?_
        refine rq_payments C hgX hfl hw had (hO1.wI hw (Or.inr rfl)) ml_L_76  (Nat.le_of_ble_eq_true rfl) ⟨Nat.le_of_ble_eq_true rfl, Nat.le_of_ble_eq_true rfl⟩ ⟨by dsimp only; omega, by dsimp only; omega⟩ dL_tell_96 ?_
        intro Mq2 hO2 hk2
        have hi2 : ∀ k_, mI Mq2 z k_ = mI (wI Mq1 z (15) (nI (un τ 46 46))) z k_ := fun k_ => congrFun (hk2 z (Or.inr rfl)).2.2.1 k_
        have hK2 : mK Mq2 z = 20 := (hk2 z (Or.inr rfl)).1.trans hK1
        have hN2 : mN Mq2 z = 24 := (hk2 z (Or.inr rfl)).2.1.trans hN1
        have hg2 : KF F M Mq2 := (KF.wz (z := z) hg1 hnz).tr (hk2.mono (fun _ h_ => Or.inl h_))
        refine r_iastoreN C hK2 hN2 (by decide) (by omega) dL_tell_99 ?_
        refine r_aload_n C 1 dL_tell_100 rfl rfl ?_
        exact r_aret C hr (Or.inr ⟨_, rfl⟩) (⟨z, rfl, hzf z (Nat.le_refl _), (hO2.wI hw (Or.inr rfl)), (KF.wz (z := z) hg2 hnz), hK2, hN2, fun k_ hk_ => by rw [← tl_end (f := fun k_ => mI Mx z k_) hv k_ hk_]; simp only [wI_z, hi1, hi2]⟩) (by omega) (by omega) dL_tell_101
      · skip
        have hp3 : p < 3 := by omega
        refine r_aload_n C 1 dL_tell_12 rfl rfl ?_
        refine r_iload_n C 2 dL_tell_13 rfl rfl ?_
        refine r_aload_n C 0 dL_tell_14 rfl rfl ?_
        refine r_iload_n C 2 dL_tell_15 rfl rfl ?_
        refine rq_owed C hgX hfl hw had hOx ml_L_58 (by omega) (Nat.le_of_ble_eq_true rfl) ⟨Nat.le_of_ble_eq_true rfl, Nat.le_of_ble_eq_true rfl⟩ ⟨by dsimp only; omega, by dsimp only; omega⟩ dL_tell_16 ?_
        intro Mq3 hO3 hk3
        have hi3 : ∀ k_, mI Mq3 z k_ = mI Mx z k_ := fun k_ => congrFun (hk3 z (Or.inr rfl)).2.2.1 k_
        have hK3 : mK Mq3 z = 20 := (hk3 z (Or.inr rfl)).1.trans hKx
        have hN3 : mN Mq3 z = 24 := (hk3 z (Or.inr rfl)).2.1.trans hNx
        have hg3 : KF F M Mq3 := hgx.tr (hk3.mono (fun _ h_ => Or.inl h_))
        refine r_l2i C dL_tell_19 ?_
        refine r_iastoreN C hK3 hN3 (by decide) (by omega) dL_tell_20 ?_
        refine r_aload_n C 1 dL_tell_21 rfl rfl ?_
        refine r_iconst C (v := nI 3) dL_tell_22 (by decide) ?_
        refine r_iload_n C 2 dL_tell_23 rfl rfl ?_
        refine r_iaddN C dL_tell_24 ?_
        refine r_aload_n C 0 dL_tell_25 rfl rfl ?_
        refine r_iload_n C 2 dL_tell_26 rfl rfl ?_
        refine r_iconst C (v := nI 3) dL_tell_27 (by decide) ?_
        refine r_iconst C (v := nI 4) dL_tell_28 (by decide) ?_
        refine rq_slip C hgX hfl hw had (hO3.wI hw (Or.inr rfl)) ml_L_61 (by omega) (by omega) (by omega) (Nat.le_of_ble_eq_true rfl) ⟨Nat.le_of_ble_eq_true rfl, Nat.le_of_ble_eq_true rfl⟩ ⟨by dsimp only; omega, by dsimp only; omega⟩ dL_tell_29 ?_
        intro Mq4 hO4 hk4
        have hi4 : ∀ k_, mI Mq4 z k_ = mI (wI Mq3 z (p) ((odL τ p).toInt32)) z k_ := fun k_ => congrFun (hk4 z (Or.inr rfl)).2.2.1 k_
        have hK4 : mK Mq4 z = 20 := (hk4 z (Or.inr rfl)).1.trans hK3
        have hN4 : mN Mq4 z = 24 := (hk4 z (Or.inr rfl)).2.1.trans hN3
        have hg4 : KF F M Mq4 := (KF.wz (z := z) hg3 hnz).tr (hk4.mono (fun _ h_ => Or.inl h_))
        refine r_l2i C dL_tell_32 ?_
        refine r_iastoreN C hK4 hN4 (by decide) (by omega) dL_tell_33 ?_
        refine r_aload_n C 1 dL_tell_34 rfl rfl ?_
        refine r_bipush C (v := nI 6) dL_tell_35 (by decide) ?_
        refine r_iload_n C 2 dL_tell_37 rfl rfl ?_
        refine r_iaddN C dL_tell_38 ?_
        refine r_aload_n C 0 dL_tell_39 rfl rfl ?_
        refine r_iload_n C 2 dL_tell_40 rfl rfl ?_
        refine r_sipush C (v := nI 400) dL_tell_41 (by decide) ?_
        refine rq_leaveLeft C hgX hfl hw had (hO4.wI hw (Or.inr rfl)) ml_L_65 (by omega) (by omega) (Nat.le_of_ble_eq_true rfl) ⟨Nat.le_of_ble_eq_true rfl, Nat.le_of_ble_eq_true rfl⟩ ⟨by dsimp only; omega, by dsimp only; omega⟩ dL_tell_44 ?_
        intro Mq5 hO5 hk5
        have hi5 : ∀ k_, mI Mq5 z k_ = mI (wI Mq4 z (3 + p) ((slL τ p 3 4).toInt32)) z k_ := fun k_ => congrFun (hk5 z (Or.inr rfl)).2.2.1 k_
        have hK5 : mK Mq5 z = 20 := (hk5 z (Or.inr rfl)).1.trans hK4
        have hN5 : mN Mq5 z = 24 := (hk5 z (Or.inr rfl)).2.1.trans hN4
        have hg5 : KF F M Mq5 := (KF.wz (z := z) hg4 hnz).tr (hk5.mono (fun _ h_ => Or.inl h_))
        refine r_iastoreN C hK5 hN5 (by decide) (by omega) dL_tell_47 ?_
        refine r_aload_n C 1 dL_tell_48 rfl rfl ?_
        refine r_bipush C (v := nI 9) dL_tell_49 (by decide) ?_
        refine r_iload_n C 2 dL_tell_51 rfl rfl ?_
        refine r_iaddN C dL_tell_52 ?_
        refine r_aload_n C 0 dL_tell_53 rfl rfl ?_
        refine r_iload_n C 2 dL_tell_54 rfl rfl ?_
        refine r_iconst C (v := nI 1) dL_tell_55 (by decide) ?_
        refine r_iconst C (v := bI true) dL_tell_56 (by decide) ?_
        refine rq_filed C hgX hfl hw had (hO5.wI hw (Or.inr rfl)) ml_L_68 (by omega) (by omega) (Nat.le_of_ble_eq_true rfl) ⟨Nat.le_of_ble_eq_true rfl, Nat.le_of_ble_eq_true rfl⟩ ⟨by dsimp only; omega, by dsimp only; omega⟩ dL_tell_57 ?_
        intro Mq6 hO6 hk6
        have hi6 : ∀ k_, mI Mq6 z k_ = mI (wI Mq5 z (6 + p) (nI (leftN τ p 400))) z k_ := fun k_ => congrFun (hk6 z (Or.inr rfl)).2.2.1 k_
        have hK6 : mK Mq6 z = 20 := (hk6 z (Or.inr rfl)).1.trans hK5
        have hN6 : mN Mq6 z = 24 := (hk6 z (Or.inr rfl)).2.1.trans hN5
        have hg6 : KF F M Mq6 := (KF.wz (z := z) hg5 hnz).tr (hk6.mono (fun _ h_ => Or.inl h_))
        refine r_l2i C dL_tell_60 ?_
        refine r_iastoreN C hK6 hN6 (by decide) (by omega) dL_tell_61 ?_
        refine r_aload_n C 1 dL_tell_62 rfl rfl ?_
        refine r_bipush C (v := nI 12) dL_tell_63 (by decide) ?_
        refine r_iload_n C 2 dL_tell_65 rfl rfl ?_
        refine r_iaddN C dL_tell_66 ?_
        refine r_aload_n C 0 dL_tell_67 rfl rfl ?_
        refine r_iload_n C 2 dL_tell_68 rfl rfl ?_
        refine r_bipush C (v := nI 13) dL_tell_69 (by decide) ?_
        refine r_bipush C (v := nI 6) dL_tell_71 (by decide) ?_
        refine rq_slip C hgX hfl hw had (hO6.wI hw (Or.inr rfl)) ml_L_61 (by omega) (by omega) (by omega) (Nat.le_of_ble_eq_true rfl) ⟨Nat.le_of_ble_eq_true rfl, Nat.le_of_ble_eq_true rfl⟩ ⟨by dsimp only; omega, by dsimp only; omega⟩ dL_tell_73 ?_
        intro Mq7 hO7 hk7
        have hi7 : ∀ k_, mI Mq7 z k_ = mI (wI Mq6 z (9 + p) ((τ.2 52 (24 * p + 1)).toInt32)) z k_ := fun k_ => congrFun (hk7 z (Or.inr rfl)).2.2.1 k_
        have hK7 : mK Mq7 z = 20 := (hk7 z (Or.inr rfl)).1.trans hK6
        have hN7 : mN Mq7 z = 24 := (hk7 z (Or.inr rfl)).2.1.trans hN6
        have hg7 : KF F M Mq7 := (KF.wz (z := z) hg6 hnz).tr (hk7.mono (fun _ h_ => Or.inl h_))
        refine r_l2i C dL_tell_76 ?_
        refine r_iastoreN C hK7 hN7 (by decide) (by omega) dL_tell_77 ?_
        refine r_iinc C (v := nI (p + 1)) (lo' := [(2, .int (nI (p + 1))), (0, .ref q), (1, .ref z)]) 2 dL_tell_78 rfl (nI_addI p 1) (by decide) rfl ?_
        refine V.widen (k := 1 + 7 * (p + 1)) (n := 24 + 42 * (p + 1)) (by omega) (by omega) ?_
        refine r_goto C (t := 7) dL_tell_81 (by decide) ?_
        refine V.sub [1, 2, 0] (lo' := [(0, .ref q), (1, .ref z), (2, .int (nI (p + 1)))]) rfl ?_
        exact ih7 (wI Mq7 z (12 + p) ((slL τ p 13 6).toInt32)) (p + 1) (by omega) (hO7.wI hw (Or.inr rfl)) (KF.wz (z := z) hg7 hnz) hK7 hN7 (by refine tl_step (f := fun k_ => mI Mx z k_) hp3 hv |> fun hts => ?_; intro k_ hk_; rw [← hts k_ hk_]; simp only [wI_z, hi3, hi4, hi5, hi6, hi7]) (by omega)
  refine V.sub [2, 1, 0] (lo' := [(0, .ref q), (1, .ref z), (2, .int (nI 0))]) rfl ?_
  exact lp7 _ (wMk (mMk M z) z 20 24) 0 (by omega) ((OW.new hw hO hzf).1) ((OW.new hw hO hzf).2) (va_up_self _ _ _) ((va_up_ne _ _ (Nat.succ_ne_self z).symm).trans (va_up_self _ _ _)) (fun k_ _ => by rw [show mI (wMk (mMk M z) z 20 24) z = fun _ => 0 from va_up_self _ _ _]; unfold tlP; rw [if_neg (fun h_ => absurd h_.2 (Nat.not_lt_zero _))]) (Nat.lt_succ_self _)
