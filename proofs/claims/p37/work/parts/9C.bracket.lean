/-! THE CLASS: bracket -/
def BrA (α : Nat → Nat) (c e a : Nat) : Prop := ∃ o, 1 ≤ o ∧ o < 12 ∧ a = gO α c (11 + 12 * e + o)
theorem BrA.lv {τ : Mu} {α : Nat → Nat} {c e a : Nat} (hc : c < 3) (he : e < 2) (h : BrA α c e a) : ∃ k, LV τ k ∧ a = α k := by
  obtain ⟨o, h1, h2, q⟩ := h
  exact ⟨_, lv_g hc (show 11 + 12 * e + o < 35 by omega), q⟩
theorem BrA.no {τ : Mu} {α : Nat → Nat} {c e k : Nat} (hi : INJ τ α) (hc : c < 3) (he : e < 2) (hk : LV τ k) (h : ¬ (383 + 35 * c + 12 * e ≤ k ∧ k < 394 + 35 * c + 12 * e)) : ¬ BrA α c e (α k) := by
  rintro ⟨o, h1, h2, q⟩
  have := hi _ _ hk (lv_g hc (show 11 + 12 * e + o < 35 by omega)) q
  omega
theorem BrA.lc {τ : Mu} {α : Nat → Nat} {c e k : Nat} (hi : INJ τ α) (hc : c < 3) (he : e < 2) (hk : LC k) : ¬ BrA α c e (α k) := BrA.no hi hc he (lc_bc (p := 0) hk).1 (by rcases hk with rfl | rfl | rfl | ⟨q, o, h1, h2, h3, rfl⟩ <;> omega)
theorem BrF.uo {τ U : Mu} {at_ : Nat} {i : Nat → Nat → Int32} {f : Nat → Nat} (h33 : ∀ k, k < 24 → U.1 33 (at_ + k) = τ.1 33 (at_ + k)) (h34 : ∀ b, b < 4 → ∀ k, k < 24 → U.1 34 (4 * (at_ + k) + b) = τ.1 34 (4 * (at_ + k) + b)) (h35 : ∀ b, b < 4 → ∀ k, k < 24 → U.1 35 (4 * (at_ + k) + b) = τ.1 35 (4 * (at_ + k) + b)) (g : BrF τ at_ i f) : BrF U at_ i f :=
  ⟨fun k hk => (g.1 k hk).trans (congrArg nI (un_cg (h33 k hk)).symm), fun b hb k hk => (g.2.1 b hb k hk).trans (h34 b hb k hk).symm, fun b hb k hk => (g.2.2 b hb k hk).trans (h35 b hb k hk).symm⟩
def bkU (τ : Mu) (A t n : Nat) : Mu := sI (sI (sI τ 34 (4 * A + un τ 33 A) (nI t)) 35 (4 * A + un τ 33 A) (nI n)) 33 A (nI (un τ 33 A + 1))
theorem bkU_o {τ : Mu} {A t n k : Nat} (h : k < 33 ∨ 35 < k) : (bkU τ A t n).1 k = τ.1 k := (up2_row _ _ (by omega)).trans ((up2_row _ _ (by omega)).trans (up2_row _ _ (by omega)))
theorem bkU_33 {τ : Mu} {A t n : Nat} (i : Nat) : (bkU τ A t n).1 33 i = if i = A then nI (un τ 33 A + 1) else τ.1 33 i := by
  show up2 (up2 (up2 τ.1 34 (4 * A + un τ 33 A) (nI t)) 35 (4 * A + un τ 33 A) (nI n)) 33 A (nI (un τ 33 A + 1)) 33 i = _
  by_cases e : i = A
  · rw [if_pos e, e, up2_same]
  · rw [if_neg e, up2_k _ _ e, up2_row _ _ (by decide), up2_row _ _ (by decide)]
theorem bkU_34 {τ : Mu} {A t n : Nat} (i : Nat) : (bkU τ A t n).1 34 i = if i = 4 * A + un τ 33 A then nI t else τ.1 34 i := by
  show up2 (up2 (up2 τ.1 34 (4 * A + un τ 33 A) (nI t)) 35 (4 * A + un τ 33 A) (nI n)) 33 A (nI (un τ 33 A + 1)) 34 i = _
  rw [up2_row _ _ (by decide), up2_row _ _ (by decide)]
  by_cases e : i = 4 * A + un τ 33 A
  · rw [if_pos e, e, up2_same]
  · rw [if_neg e, up2_k _ _ e]
theorem bkU_35 {τ : Mu} {A t n : Nat} (i : Nat) : (bkU τ A t n).1 35 i = if i = 4 * A + un τ 33 A then nI n else τ.1 35 i := by
  show up2 (up2 (up2 τ.1 34 (4 * A + un τ 33 A) (nI t)) 35 (4 * A + un τ 33 A) (nI n)) 33 A (nI (un τ 33 A + 1)) 35 i = _
  rw [up2_row _ _ (by decide)]
  by_cases e : i = 4 * A + un τ 33 A
  · rw [if_pos e, e, up2_same]
  · rw [if_neg e, up2_k _ _ e, up2_row _ _ (by decide)]
theorem bk_F {τ : Mu} {at_ m t n : Nat} {i i' : Nat → Nat → Int32} {f : Nat → Nat} (g : BrF τ at_ i f) (hm : m < 24) (h4 : un τ 33 (at_ + m) < 4)
    (k1 : ∀ k, i' (f 1) k = if k = m then nI (un τ 33 (at_ + m) + 1) else i (f 1) k) (k3 : ∀ b, b < 4 → ∀ k, i' (f (3 + b)) k = if b = un τ 33 (at_ + m) ∧ k = m then nI t else i (f (3 + b)) k) (k8 : ∀ b, b < 4 → ∀ k, i' (f (8 + b)) k = if b = un τ 33 (at_ + m) ∧ k = m then nI n else i (f (8 + b)) k) : BrF (bkU τ (at_ + m) t n) at_ i' f := by
  refine ⟨fun k hk => ?_, fun b hb k hk => ?_, fun b hb k hk => ?_⟩
  · rw [k1 k]
    by_cases e : k = m
    · subst e
      rw [if_pos rfl]
      exact congrArg nI (un_of (by rw [bkU_33, if_pos rfl]) (by omega)).symm
    · rw [if_neg e, g.1 k hk]
      exact congrArg nI (un_cg (by rw [bkU_33, if_neg (by omega)])).symm
  · rw [k3 b hb k, bkU_34, g.2.1 b hb k hk]
    exact if_cg ⟨fun q => by rw [q.1, q.2], fun q => ⟨by omega, by omega⟩⟩
  · rw [k8 b hb k, bkU_35, g.2.2 b hb k hk]
    exact if_cg ⟨fun q => by rw [q.1, q.2], fun q => ⟨by omega, by omega⟩⟩
theorem bk_w {τ : Mu} {G : gW} {α : Nat → Nat} {M M1 M2 : Mem} {c e m t n : Nat} (hc : c < 3) (he : e < 2) (hm : m < 24) (h4 : un τ 33 (48 * c + 24 * e + m) < 4) (hw : WF τ) (hwU : WF (bkU τ (48 * c + 24 * e + m) t n)) (ws : WS τ G α M) (wt : WT τ α M) (wb : WB τ α M) (f : frm (BrA α c e) M M1)
    (hB : BrF (bkU τ (48 * c + 24 * e + m) t n) (48 * c + 24 * e) (mI M1) (fun o => gO α c (11 + 12 * e + o))) (g : frm (StA α) M1 M2) (h1 : ∀ p, p < 6 → mI M2 (bO α p 0) 0 = 1) : WD (bkU τ (48 * c + 24 * e + m) t n) G α M2 := by
  have h9 := hw.nc.2
  have h44 := hw.ng.2
  have hU : ∀ k, k < 33 ∨ 35 < k → (bkU τ (48 * c + 24 * e + m) t n).1 k = τ.1 k := fun k h => bkU_o h
  have u33 := bkU_33 (τ := τ) (A := 48 * c + 24 * e + m) (t := t) (n := n)
  have u34 := bkU_34 (τ := τ) (A := 48 * c + 24 * e + m) (t := t) (n := n)
  have u35 := bkU_35 (τ := τ) (A := 48 * c + 24 * e + m) (t := t) (n := n)
  have hU2 : (bkU τ (48 * c + 24 * e + m) t n).2 = τ.2 := rfl
  generalize bkU τ (48 * c + 24 * e + m) t n = U at hU hwU u33 u34 u35 hB hU2 ⊢
  have l2 : ∀ k, U.2 k = τ.2 k := fun k => by rw [hU2]
  have nn : ∀ k, LV τ k → ¬ (383 + 35 * c + 12 * e ≤ k ∧ k < 394 + 35 * c + 12 * e) → ¬ BrA α c e (α k) := fun k hk h => BrA.no ws.1 hc he hk h
  have ei : ∀ k, LV τ k → ¬ (383 + 35 * c + 12 * e ≤ k ∧ k < 394 + 35 * c + 12 * e) → mI M1 (α k) = mI M (α k) := fun k hk h => f.i (nn k hk h)
  have el : ∀ k, LV τ k → ¬ (383 + 35 * c + 12 * e ≤ k ∧ k < 394 + 35 * c + 12 * e) → mL M1 (α k) = mL M (α k) := fun k hk h => f.l (nn k hk h)
  have e9 : un U 9 9 = un τ 9 9 := congrFun (un_e (hU 9 (by omega))) 9
  have ws1 : WS U G α M1 := (ws.fr f (fun k hk => BrA.lc ws.1 hc he hk)).u (hU 0 (by omega)) (hU 9 (by omega)) (hU 14 (by omega)) (hU 15 (by omega)) (hU 17 (by omega)) (hU 38 (by omega)) (hU 40 (by omega)) (hU 44 (by omega)) (hU 51 (by omega))
  obtain ⟨w1, w2, w3, w4, w5⟩ := wt
  have wt1 : WT U α M1 := by
    refine ⟨fun c hc => ?_, fun r hr => ?_, fun q hq => ?_, ?_, ?_⟩
    · rw [e9] at hc
      exact ((w1 c hc).cg (fun k _ => congrFun (ei _ (lv_c hc (show 0 < 10 by decide)) (by omega)) k) (fun o _ ho => ei _ (lv_c hc (show o < 10 by omega)) (by omega))).u (fun k hk => hU k (by omega))
    · exact ((w2 r hr).cg (fun o ho => ei _ (lv_h hr (show o < 57 by omega)) (by omega)) (fun o ho => el _ (lv_h hr (show o < 57 by omega)) (by omega))).u (hU 30 (by omega)) (hU 36 (by omega)) (hU 37 (by omega)) (hU 47 (by omega)) (hU 50 (by omega)) (hU 51 (by omega)) (l2 45) (l2 49)
    · obtain ⟨b1, b2, b3, b4⟩ := w3 q hq
      have eo : ∀ o, o < 12 → mI M1 (gO α q o) = mI M (gO α q o) ∧ mL M1 (gO α q o) = mL M (gO α q o) := fun o ho => ⟨ei _ (lv_g hq (show o < 35 by omega)) (by rcases Nat.lt_trichotomy q c with z | z | z <;> omega), el _ (lv_g hq (show o < 35 by omega)) (by rcases Nat.lt_trichotomy q c with z | z | z <;> omega)⟩
      have v1 : crV U q = crV τ q := by unfold crV; rw [hU 31 (by omega)]
      have v2 : clV U q = clV τ q := by unfold clV; rw [hU 31 (by omega), hU 32 (by omega)]
      refine ⟨?_, ?_, fun s hs => ?_, ?_⟩
      · rw [v1]; unfold StV; rw [(eo 2 (by decide)).1, (eo 3 (by decide)).1]; exact b1
      · rw [v2]; unfold StV; rw [(eo 5 (by decide)).1, (eo 6 (by decide)).1]; exact b2
      · by_cases z : q = c ∧ s = e
        · obtain ⟨rfl, rfl⟩ := z
          exact hB
        · have na : ∀ k, k < 24 → ¬ (48 * q + 24 * s + k = 48 * c + 24 * e + m) := fun k hk h => by
            rcases Nat.lt_trichotomy q c with y | y | y
            · omega
            · rcases Nat.lt_trichotomy s e with x | x | x
              · omega
              · exact z ⟨y, x⟩
              · omega
            · omega
          have h33' : un τ 33 (48 * c + 24 * e + m) < 4 := h4
          refine (BrF.cg (b3 s hs) (fun o ho => ?_)).uo (fun k hk => ?_) (fun b hb k hk => ?_) (fun b hb k hk => ?_)
          · by_cases o0 : o = 0
            · subst o0
              exact ei _ (lv_g hq (show 11 + 12 * s + 0 < 35 by omega)) (by rcases Nat.lt_trichotomy q c with y | y | y <;> omega)
            · refine ei _ (lv_g hq (show 11 + 12 * s + o < 35 by omega)) ?_
              rcases Nat.lt_trichotomy q c with y | y | y
              · omega
              · rcases Nat.lt_trichotomy s e with x | x | x
                · omega
                · exact absurd ⟨y, x⟩ z
                · omega
              · omega
          · rw [u33, if_neg (na k hk)]
          · rw [u34, if_neg (fun h => na k hk (by omega))]
          · rw [u35, if_neg (fun h => na k hk (by omega))]
      · rw [(eo 8 (by decide)).2, (eo 9 (by decide)).2, (eo 10 (by decide)).1, l2 52, l2 53, hU 54 (by omega)]
        exact b4
    · obtain ⟨b1, b2, b3, b4, b5, b6, b7⟩ := w4
      have e0 : mI M1 (α 0) = mI M (α 0) := ei 0 (lv_s (by decide)) (by omega)
      unfold WTx
      rw [e0, un_e (hU 13 (by omega)), un_e (hU 17 (by omega)), un_e (hU 18 (by omega)), un_e (hU 19 (by omega)), un_e (hU 20 (by omega)), un_e (hU 46 (by omega))]
      exact ⟨b1, b2, b3, b4, b5, b6, (b7.cgs (fun o ho => ei (4 + o) (lv_s (by omega)) (by omega))).u (hU 22 (by omega)) (hU 23 (by omega)) (hU 24 (by omega)) (hU 25 (by omega)) (hU 26 (by omega)) (hU 27 (by omega))⟩
    · exact (w5.cg (fun k hk => congrFun (ei _ (lv_l hk) (by omega)) 1) (fun g hg => ei _ (lv_a hg (show 0 < 2 by decide)) (by omega)) (fun k hk => ⟨ei _ (lv_y hk) (by omega), el _ (lv_y hk) (by omega)⟩)).u (hU 15 (by omega)) (hU 17 (by omega)) (fun k a b => hU k (by omega)) (hU 47 (by omega)) (hU 48 (by omega)) (hU 50 (by omega)) (hU 51 (by omega)) (l2 49)
  refine stale_w hwU ws1 wt1 (fun c hc hz => ?_) g h1
  rw [e9] at hc
  have hn : ∀ o, o < 10 → ¬ BrA α _ _ (cO α c o) := fun o ho => nn _ (lv_c hc ho) (by omega)
  exact ((wb.1 c hc (by rw [← f.i (hn 0 (by decide))]; exact hz)).fr f (hn 7 (by decide)) (hn 8 (by decide))).u (fun k hk => hU k (by omega))
theorem bq_e {τ : Mu} (hw : WF τ) {A a : Nat} {t : Int32} (hA : A < 144) (ht : t = nI a) (ha : a < 2 ^ 31) : decide (un τ 33 A = 0 ∨ (un τ 33 A < 4 ∧ un τ 34 (4 * A + (un τ 33 A - 1)) < a)) = brB τ A t := by
  have h4 := (hw.bn A hA).2
  unfold brB
  rw [ht, Bool.eq_iff_iff, Bool.and_eq_true, Bool.or_eq_true, decide_eq_true_iff, decide_eq_true_iff, decide_eq_true_iff, decide_eq_true_iff]
  by_cases z : un τ 33 A = 0
  · exact ⟨fun _ => ⟨by omega, .inl z⟩, fun _ => .inl z⟩
  · have hb := hw.be A (un τ 33 A - 1) hA (by omega)
    rw [show 4 * A + un τ 33 A - 1 = 4 * A + (un τ 33 A - 1) by omega, hb.1, Int32.lt_iff_toInt_lt, nI_toInt (by have := hb.2; omega), nI_toInt ha]
    exact ⟨fun h => ⟨by omega, .inr (by omega)⟩, fun h => .inr ⟨by omega, by omega⟩⟩
set_option maxHeartbeats 1000000 in
set_option maxRecDepth 100000 in
theorem c_X11_bracket (l : Launch) (hfl : l.flags = flags0) (G : gW) (M : Mem) (τ : Mu) (hw : WF τ) (α : Nat → Nat) (hws : WS τ G α M) (hwt : WT τ α M) (hwb : WB τ α M) (had : ∀ p, p < 6 → AD τ p) (x y z t n : Int32) : CX l yX11_bracket cX11_bracket 7 (some .int) 7 3 18 102 G M [.ref (α 0), .int x, .int y, .int z, .int t, .int n] (fun v M' => PC τ G α M (cd3 (rng x 3 && rng z 24) (inB y (lN 0) (lN 1) && inB t (lN 1) (lN 1000000000) && inB n (lN 0) (lN 900)) (brB τ (brI x y z t n) t)) (sI (sI (sI τ 34 (4 * (brI x y z t n) + un τ 33 (brI x y z t n)) t) 35 (4 * (brI x y z t n) + un τ 33 (brI x y z t n)) n) 33 (brI x y z t n) (nI (un τ 33 (brI x y z t n) + 1))) (some (.int (nI (un τ 33 (brI x y z t n) + 1)))) v M') (fun E M' => XP M (cd3 (rng x 3 && rng z 24) (inB y (lN 0) (lN 1) && inB t (lN 1) (lN 1000000000) && inB n (lN 0) (lN 900)) (brB τ (brI x y z t n) t)) ["java/lang/IndexOutOfBoundsException", "java/lang/IllegalArgumentException", "java/lang/IllegalStateException"] E M') := by
  refine CX.of hfl rfl (Nat.le_of_ble_eq_true rfl) ?_
  intro pp ee ss mm ar bw mt cd C hgX hr hno
  have hx := hws.2.1
  have hwx := hwt.2.2.2.1
  have h9 := hw.nc.2
  have h13 := hw.sh.2
  have h17 := hw.nl.2
  have h26 := hw.ne.2
  have h44 := hw.ng.2
  have h46 := hw.op.2
  have h51 := hw.np.2
  refine V.eLo (lo' := [(0, .ref (α 0)), (1, .int x), (2, .int y), (3, .int z), (4, .int t), (5, .int n)]) rfl ?_
  have jn19 : V pp l ee ({ frames := 7, cells := 3, slots := 18, locals := 102 } : Room) ss mm ar bw mt cd G (vx_MQ bw (Ke G (fun v M' => PC τ G α M (cd3 (rng x 3 && rng z 24) (inB y (lN 0) (lN 1) && inB t (lN 1) (lN 1000000000) && inB n (lN 0) (lN 900)) (brB τ (brI x y z t n) t)) (sI (sI (sI τ 34 (4 * (brI x y z t n) + un τ 33 (brI x y z t n)) t) 35 (4 * (brI x y z t n) + un τ 33 (brI x y z t n)) n) 33 (brI x y z t n) (nI (un τ 33 (brI x y z t n) + 1))) (some (.int (nI (un τ 33 (brI x y z t n) + 1)))) v M')) (Kx G (fun E M' => XP M (cd3 (rng x 3 && rng z 24) (inB y (lN 0) (lN 1) && inB t (lN 1) (lN 1000000000) && inB n (lN 0) (lN 900)) (brB τ (brI x y z t n) t)) ["java/lang/IndexOutOfBoundsException", "java/lang/IllegalArgumentException", "java/lang/IllegalStateException"] E M')) ar ss 3 18 (gA G)) 7 M 0 0 19 [(0, .ref (α 0)), (1, .int x), (2, .int y), (3, .int z), (4, .int t), (5, .int n)] [.int (bI (rng x 3 && rng z 24))] := by
    skip
    refine r_xS C hgX hno ml_X11_55 st_X11_needThere (c_X11_needThere l hfl G M (rng x 3 && rng z 24)) rfl (Nat.le_of_ble_eq_true rfl) ⟨Nat.le_of_ble_eq_true rfl, Nat.le_of_ble_eq_true rfl⟩ ⟨Nat.le_of_ble_eq_true rfl, Nat.le_of_ble_eq_true rfl⟩ dX11_bracket_19 rfl (fun E_ M_ h_ => x_3a h_) ⟨Nat.le_of_ble_eq_true rfl, Nat.le_of_ble_eq_true rfl⟩ ?_
    rintro _ _ ⟨rfl, rfl, hq1⟩
    have hq := hq1
    obtain ⟨hqa, hqb⟩ := Bool.and_eq_true_iff.mp hq
    obtain ⟨c, hc, e_x⟩ := rng_t hqa
    obtain ⟨m, hm, e_z⟩ := rng_t hqb
    have hg := (hws.2.2.2.1 c hc).1
    refine V.eLo (lo' := [(0, .ref (α 0)), (1, .int (nI c)), (2, .int y), (3, .int (nI m)), (4, .int t), (5, .int n)]) (by rw [e_x, e_z]) ?_
    have jn57 : V pp l ee ({ frames := 7, cells := 3, slots := 18, locals := 102 } : Room) ss mm ar bw mt cd G (vx_MQ bw (Ke G (fun v M' => PC τ G α M (cd3 (rng x 3 && rng z 24) (inB y (lN 0) (lN 1) && inB t (lN 1) (lN 1000000000) && inB n (lN 0) (lN 900)) (brB τ (brI x y z t n) t)) (sI (sI (sI τ 34 (4 * (brI x y z t n) + un τ 33 (brI x y z t n)) t) 35 (4 * (brI x y z t n) + un τ 33 (brI x y z t n)) n) 33 (brI x y z t n) (nI (un τ 33 (brI x y z t n) + 1))) (some (.int (nI (un τ 33 (brI x y z t n) + 1)))) v M')) (Kx G (fun E M' => XP M (cd3 (rng x 3 && rng z 24) (inB y (lN 0) (lN 1) && inB t (lN 1) (lN 1000000000) && inB n (lN 0) (lN 900)) (brB τ (brI x y z t n) t)) ["java/lang/IndexOutOfBoundsException", "java/lang/IllegalArgumentException", "java/lang/IllegalStateException"] E M')) ar ss 3 18 (gA G)) 7 M 1 6 57 [(0, .ref (α 0)), (1, .int (nI c)), (2, .int y), (3, .int (nI m)), (4, .int t), (5, .int n)] [.int (bI (inB y (lN 0) (lN 1) && inB t (lN 1) (lN 1000000000) && inB n (lN 0) (lN 900)))] := by
      skip
      refine r_xS C hgX hno ml_X11_64 st_X11_needFitting (c_X11_needFitting l hfl G M (inB y (lN 0) (lN 1) && inB t (lN 1) (lN 1000000000) && inB n (lN 0) (lN 900))) rfl (Nat.le_of_ble_eq_true rfl) ⟨Nat.le_of_ble_eq_true rfl, Nat.le_of_ble_eq_true rfl⟩ ⟨Nat.le_of_ble_eq_true rfl, Nat.le_of_ble_eq_true rfl⟩ dX11_bracket_57 rfl (fun E_ M_ h_ => x_3b hq h_) ⟨Nat.le_of_ble_eq_true rfl, Nat.le_of_ble_eq_true rfl⟩ ?_
      rintro _ _ ⟨rfl, rfl, hq2⟩
      have hq2 := hq2
      obtain ⟨hqc, hqe⟩ := Bool.and_eq_true_iff.mp hq2
      obtain ⟨hqc, hqd⟩ := Bool.and_eq_true_iff.mp hqc
      obtain ⟨e, he0, he1, e_y⟩ := inB_N (by decide) (by decide) hqc
      obtain ⟨a, ha0, ha, e_t⟩ := inB_N (by decide) (by decide) hqd
      obtain ⟨b, hb0, hb, e_n⟩ := inB_N (by decide) (by decide) hqe
      have he2 : e < 2 := by omega
      have hA : brI x y z t n = 48 * c + 24 * e + m := by unfold brI brA; rw [hq, hq2, Bool.and_self, if_pos rfl, e_x, e_y, e_z, nI_clamp (n := c) (by omega), nI_clamp (n := e) (by omega), nI_clamp (n := m) (by omega)]
      have hAl : 48 * c + 24 * e + m < 144 := by omega
      have hb4 := (hw.bn _ hAl).2
      have hbf := (hwt.2.2.1 c hc).2.2.1 e he2
      refine V.eLo (lo' := [(0, .ref (α 0)), (1, .int (nI c)), (2, .int (nI e)), (3, .int (nI m)), (4, .int (nI a)), (5, .int (nI b))]) (by rw [e_y, e_t, e_n]) ?_
      refine r_aload_n C 0 dX11_bracket_60 rfl rfl ?_
      refine r_getR C (b := (α 3)) fl_X11_24 rfl (hx.k 0 14 rfl) (hx.r 0 2 3 rfl) dX11_bracket_61 ?_
      refine r_iload_n C 1 dX11_bracket_64 rfl rfl ?_
      refine r_aaloadN C (b := (gO α c 0)) 2 (by decide) (hx.k 3 25 rfl) (hx.n 3 3 rfl) (by omega) (by omega) (hws.2.2.2.1 c (by omega)).2 dX11_bracket_65 ?_
      refine r_getR C (b := (gO α c 7)) fl_X11_230 rfl (hg.k 0 12 rfl) (hg.r 0 2 7 rfl) dX11_bracket_66 ?_
      refine r_iload_n C 2 dX11_bracket_69 rfl rfl ?_
      refine r_aaloadN C (b := (gO α c (11 + 12 * e))) 0 (by decide) (hg.k 7 23 rfl) (hg.n 7 2 rfl) (by omega) (by omega) (hg.rp 7 11 2 12 rfl e (by omega)) dX11_bracket_70 ?_
      refine r_astore C (lo' := [(6, .ref (gO α c (11 + 12 * e))), (0, .ref (α 0)), (1, .int (nI c)), (2, .int (nI e)), (3, .int (nI m)), (4, .int (nI a)), (5, .int (nI b))]) dX11_bracket_71 (by decide) rfl ?_
      refine r_aload C 0 dX11_bracket_73 rfl ?_
      refine r_iload_n C 4 dX11_bracket_75 rfl rfl ?_
      refine r_iload C 5 dX11_bracket_76 rfl ?_
      refine r_callV C hgX (ci := 4) ml_X11_234 im_X1_takesEnd se_X1_takesEnd rfl rfl ((hg.br e he2).k 0 5 rfl) (c_X1_takesEnd l hfl G M (fun o => gO α c (11 + 12 * e + o)) (hg.br e he2) τ hw (48 * c + 24 * e) (by omega) hbf m a (by omega) (by omega)) rfl (Nat.le_of_ble_eq_true rfl) ⟨Nat.le_of_ble_eq_true rfl, Nat.le_of_ble_eq_true rfl⟩ ⟨Nat.le_of_ble_eq_true rfl, Nat.le_of_ble_eq_true rfl⟩ dX11_bracket_78 rfl ?_
      rintro _ _ ⟨rfl, rfl⟩
      refine V.eSt (st' := [.int (bI (decide (un τ 33 (48 * c + 24 * e + m) = 0 ∨ (un τ 33 (48 * c + 24 * e + m) < 4 ∧ un τ 34 (4 * (48 * c + 24 * e + m) + (un τ 33 (48 * c + 24 * e + m) - 1)) < a))))]) rfl ?_
      refine V.ei (y := bI (brB τ (brI x y z t n) t)) (congrArg bI (by rw [hA]; exact bq_e hw hAl e_t (by omega))) ?_
      refine r_xS C hgX hno ml_X11_71 st_X11_needAllowed (c_X11_needAllowed l hfl G M (brB τ (brI x y z t n) t)) rfl (Nat.le_of_ble_eq_true rfl) ⟨Nat.le_of_ble_eq_true rfl, Nat.le_of_ble_eq_true rfl⟩ ⟨Nat.le_of_ble_eq_true rfl, Nat.le_of_ble_eq_true rfl⟩ dX11_bracket_81 rfl (fun E_ M_ h_ => x_3c hq hq2 h_) ⟨Nat.le_of_ble_eq_true rfl, Nat.le_of_ble_eq_true rfl⟩ ?_
      rintro _ _ ⟨rfl, rfl, hq3⟩
      have hq3 := hq3
      have hq4 := hq3
      rw [hA] at hq4
      unfold brB at hq4
      rw [Bool.and_eq_true, decide_eq_true_iff] at hq4
      have h4 : un τ 33 (48 * c + 24 * e + m) < 4 := by have := hq4.1; omega
      refine r_aload C 0 dX11_bracket_84 rfl ?_
      refine r_iload_n C 4 dX11_bracket_86 rfl rfl ?_
      refine r_iload C 5 dX11_bracket_87 rfl ?_
      refine r_iload C 6 dX11_bracket_89 rfl ?_
      refine r_callV C hgX (ci := 4) ml_X11_239 im_X1_add se_X1_add rfl rfl ((hg.br e he2).k 0 5 rfl) (c_X1_add l hfl G M (fun o => gO α c (11 + 12 * e + o)) (hg.br e he2) τ hw (48 * c + 24 * e) (by omega) hbf m a b (by omega) (h4)) rfl (Nat.le_of_ble_eq_true rfl) ⟨Nat.le_of_ble_eq_true rfl, Nat.le_of_ble_eq_true rfl⟩ ⟨Nat.le_of_ble_eq_true rfl, Nat.le_of_ble_eq_true rfl⟩ dX11_bracket_91 rfl ?_
      rintro _ My4 ⟨rfl, hfm4, hk14, hk34, hk84⟩
      have hfb : frm (BrA α c e) M My4 := hfm4.mono (fun a h => by rcases h with h | h | h; exact ⟨1, by omega, by omega, h⟩; exact ⟨3 + un τ 33 (48 * c + 24 * e + m), by omega, by omega, h⟩; exact ⟨8 + un τ 33 (48 * c + 24 * e + m), by omega, by omega, h⟩)
      have hB := bk_F (at_ := 48 * c + 24 * e) (m := m) (t := a) (n := b) hbf hm h4 hk14 hk34 hk84
      have hkk := hk14 m
      rw [if_pos rfl] at hkk
      have hwsO := hws
      have hws := hwsO.fr hfb (fun k hk => BrA.lc hwsO.1 hc he2 hk)
      have hx := hws.2.1
      refine r_aload_n C 1 dX11_bracket_94 rfl rfl ?_
      refine r_callV C hgX (ci := 13) ml_X11_161 im_X11_makeAllStale se_X11_makeAllStale rfl rfl (hx.k 0 14 rfl) (c_X11_makeAllStale l hfl G My4 τ α hws) rfl (Nat.le_of_ble_eq_true rfl) ⟨Nat.le_of_ble_eq_true rfl, Nat.le_of_ble_eq_true rfl⟩ ⟨Nat.le_of_ble_eq_true rfl, Nat.le_of_ble_eq_true rfl⟩ dX11_bracket_95 rfl ?_
      rintro _ My5 ⟨rfl, hsa5, hsf5⟩
      have hcnt : mI My5 (gO α c (11 + 12 * e + 1)) m = nI (un τ 33 (48 * c + 24 * e + m) + 1) := (congrFun (hsa5.i (StA.no hws.1 (lv_g hc (show 11 + 12 * e + 1 < 35 by omega)) (fun p hp => by omega))) m).trans hkk
      have hws2 := hws.fr hsa5 (fun k hk => StA.lc hws.1 hk)
      have hg := (hws2.2.2.2.1 c hc).1
      refine r_aload C 0 dX11_bracket_98 rfl ?_
      refine r_getR C (b := (gO α c (11 + 12 * e + 1))) fl_X11_241 rfl ((hg.br e he2).k 0 5 rfl) ((hg.br e he2).r 0 0 1 rfl) dX11_bracket_100 ?_
      refine r_iload_n C 4 dX11_bracket_103 rfl rfl ?_
      refine r_ialoadN C ((hg.br e he2).k 1 20 rfl) ((hg.br e he2).n 1 24 rfl) (by omega) (by omega) dX11_bracket_104 ?_
      refine V.ei (y := nI (un τ 33 (48 * c + 24 * e + m) + 1)) (hcnt) ?_
      refine V.xret ?_
      exact r_iret C hr (⟨k_3 hq hq2 hq3, by rw [hA], α, by rw [hA, e_t, e_n]; exact bk_w hc he2 hm h4 hw (wf_bracket hw hAl hq4.1 ha hb) hwsO hwt hwb hfb hB hsa5 hsf5, rfl, CF.tr2 hfb hsa5 (fun a h => BrA.lv hc he2 h) (fun a h => StA.lv h), fun _ _ hz_ k_ hk_ => hz_ k_ (LV.u rfl rfl rfl rfl hk_)⟩) (by first | exact Nat.zero_le _ | decide) (by first | exact Nat.zero_le _ | decide) dX11_bracket_105
    refine r_iload_n C 2 dX11_bracket_22 rfl rfl ?_
    refine r_callS C hgX ml_X11_226 st_X11_isState (c_X11_isState l hfl G M y) rfl (Nat.le_of_ble_eq_true rfl) ⟨Nat.le_of_ble_eq_true rfl, Nat.le_of_ble_eq_true rfl⟩ ⟨Nat.le_of_ble_eq_true rfl, Nat.le_of_ble_eq_true rfl⟩ dX11_bracket_23 rfl ?_
    rintro _ _ ⟨rfl, rfl⟩
    refine V.eSt (st' := [.int (bI (rng y 2))]) rfl ?_
    refine V.ei (y := bI (inB y (lN 0) (lN 1))) (congrArg bI (rng_in y 2 (lN 1) rfl).symm) ?_
    refine r_if_eqB C (t := 56) dX11_bracket_26 (by decide) (fun c26 => ?_) (fun c26 => ?_)
    · skip
      refine r_iconst C (v := nI 0) dX11_bracket_56 (by decide) ?_
      refine V.eSt (st' := [.int (bI false)]) rfl ?_
      refine V.ei (y := bI (inB y (lN 0) (lN 1) && inB t (lN 1) (lN 1000000000) && inB n (lN 0) (lN 900))) (congrArg bI (by simp [c26])) ?_
      exact jn57
    · skip
      refine r_iload C 4 dX11_bracket_29 rfl ?_
      refine r_iconst C (v := nI 1) dX11_bracket_31 (by decide) ?_
      refine r_ldc C (v := 1000000000) ki_X11_229 dX11_bracket_32 ?_
      refine V.ei (y := nI 1000000000) (by decide) ?_
      refine r_callS C hgX ml_X11_59 st_X11_isWithin (c_X11_isWithin l hfl G M t (nI 1) (nI 1000000000)) rfl (Nat.le_of_ble_eq_true rfl) ⟨Nat.le_of_ble_eq_true rfl, Nat.le_of_ble_eq_true rfl⟩ ⟨Nat.le_of_ble_eq_true rfl, Nat.le_of_ble_eq_true rfl⟩ dX11_bracket_34 rfl ?_
      rintro _ _ ⟨rfl, rfl⟩
      refine V.eSt (st' := [.int (bI (inB t (nI 1).toInt64 (nI 1000000000).toInt64))]) rfl ?_
      refine V.ei (y := bI (inB t (lN 1) (lN 1000000000))) rfl ?_
      refine r_if_eqB C (t := 56) dX11_bracket_37 (by decide) (fun c37 => ?_) (fun c37 => ?_)
      · skip
        refine r_iconst C (v := nI 0) dX11_bracket_56 (by decide) ?_
        refine V.eSt (st' := [.int (bI false)]) rfl ?_
        refine V.ei (y := bI (inB y (lN 0) (lN 1) && inB t (lN 1) (lN 1000000000) && inB n (lN 0) (lN 900))) (congrArg bI (by simp [c26, c37])) ?_
        exact jn57
      · skip
        refine r_iload C 5 dX11_bracket_40 rfl ?_
        refine r_iconst C (v := nI 0) dX11_bracket_42 (by decide) ?_
        refine r_sipush C (v := nI 900) dX11_bracket_43 (by decide) ?_
        refine r_callS C hgX ml_X11_59 st_X11_isWithin (c_X11_isWithin l hfl G M n (nI 0) (nI 900)) rfl (Nat.le_of_ble_eq_true rfl) ⟨Nat.le_of_ble_eq_true rfl, Nat.le_of_ble_eq_true rfl⟩ ⟨Nat.le_of_ble_eq_true rfl, Nat.le_of_ble_eq_true rfl⟩ dX11_bracket_46 rfl ?_
        rintro _ _ ⟨rfl, rfl⟩
        refine V.eSt (st' := [.int (bI (inB n (nI 0).toInt64 (nI 900).toInt64))]) rfl ?_
        refine V.ei (y := bI (inB n (lN 0) (lN 900))) rfl ?_
        refine r_if_eqB C (t := 56) dX11_bracket_49 (by decide) (fun c49 => ?_) (fun c49 => ?_)
        · skip
          refine r_iconst C (v := nI 0) dX11_bracket_56 (by decide) ?_
          refine V.eSt (st' := [.int (bI false)]) rfl ?_
          refine V.ei (y := bI (inB y (lN 0) (lN 1) && inB t (lN 1) (lN 1000000000) && inB n (lN 0) (lN 900))) (congrArg bI (by simp [c26, c37, c49])) ?_
          exact jn57
        · skip
          refine r_iconst C (v := nI 1) dX11_bracket_52 (by decide) ?_
          refine r_goto C (t := 57) dX11_bracket_53 (by decide) ?_
          refine V.eSt (st' := [.int (bI true)]) rfl ?_
          refine V.ei (y := bI (inB y (lN 0) (lN 1) && inB t (lN 1) (lN 1000000000) && inB n (lN 0) (lN 900))) (congrArg bI (by simp [c26, c37, c49])) ?_
          exact jn57
  refine r_iload_n C 1 dX11_bracket_0 rfl rfl ?_
  refine r_callS C hgX ml_X11_49 st_X11_isPlace (c_X11_isPlace l hfl G M x) rfl (Nat.le_of_ble_eq_true rfl) ⟨Nat.le_of_ble_eq_true rfl, Nat.le_of_ble_eq_true rfl⟩ ⟨Nat.le_of_ble_eq_true rfl, Nat.le_of_ble_eq_true rfl⟩ dX11_bracket_1 rfl ?_
  rintro _ _ ⟨rfl, rfl⟩
  refine V.eSt (st' := [.int (bI (rng x 3))]) rfl ?_
  refine r_if_eqB C (t := 18) dX11_bracket_4 (by decide) (fun c4 => ?_) (fun c4 => ?_)
  · skip
    refine r_iconst C (v := nI 0) dX11_bracket_18 (by decide) ?_
    refine V.eSt (st' := [.int (bI false)]) rfl ?_
    refine V.ei (y := bI (rng x 3 && rng z 24)) (congrArg bI (by simp [c4])) ?_
    exact jn19
  · skip
    refine r_iload_n C 3 dX11_bracket_7 rfl rfl ?_
    refine r_callS C hgX ml_X11_141 st_X11_isMonth (c_X11_isMonth l hfl G M z) rfl (Nat.le_of_ble_eq_true rfl) ⟨Nat.le_of_ble_eq_true rfl, Nat.le_of_ble_eq_true rfl⟩ ⟨Nat.le_of_ble_eq_true rfl, Nat.le_of_ble_eq_true rfl⟩ dX11_bracket_8 rfl ?_
    rintro _ _ ⟨rfl, rfl⟩
    refine V.eSt (st' := [.int (bI (rng z 24))]) rfl ?_
    refine r_if_eqB C (t := 18) dX11_bracket_11 (by decide) (fun c11 => ?_) (fun c11 => ?_)
    · skip
      refine r_iconst C (v := nI 0) dX11_bracket_18 (by decide) ?_
      refine V.eSt (st' := [.int (bI false)]) rfl ?_
      refine V.ei (y := bI (rng x 3 && rng z 24)) (congrArg bI (by simp [c4, c11])) ?_
      exact jn19
    · skip
      refine r_iconst C (v := nI 1) dX11_bracket_14 (by decide) ?_
      refine r_goto C (t := 19) dX11_bracket_15 (by decide) ?_
      refine V.eSt (st' := [.int (bI true)]) rfl ?_
      refine V.ei (y := bI (rng x 3 && rng z 24)) (congrArg bI (by simp [c4, c11])) ?_
      exact jn19

