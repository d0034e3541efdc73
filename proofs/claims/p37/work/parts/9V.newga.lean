/-! WORLD: a new garnishment -/
def EnO (P : Nat → Prop) (key : Nat → Nat) (n nl : Nat) (ln : Nat → Nat) : Prop := (∀ i, i < nl → ln i < n ∧ P (ln i)) ∧ (∀ i j, i < j → j < nl → key (ln i) < key (ln j) ∨ (key (ln i) = key (ln j) ∧ ln i < ln j)) ∧ ∀ k, k < n → P k → ∃ i, i < nl ∧ ln i = k
theorem EnO.skip {P P' : Nat → Prop} {key key' : Nat → Nat} {n nl : Nat} {ln : Nat → Nat} (h : EnO P key n nl ln) (hP : ¬ P' n) (hag : ∀ c, c < n → (P' c ↔ P c) ∧ key' c = key c) : EnO P' key' (n + 1) nl ln := by
  obtain ⟨a1, a2, a3⟩ := h
  refine ⟨fun i hi => ⟨Nat.lt_succ_of_lt (a1 i hi).1, (hag _ (a1 i hi).1).1.mpr (a1 i hi).2⟩, fun i j h1 h2 => ?_, fun k hk hp => ?_⟩
  · rw [(hag _ (a1 i (by omega)).1).2, (hag _ (a1 j h2).1).2]; exact a2 i j h1 h2
  · have : k ≠ n := fun e => hP (e ▸ hp)
    exact a3 k (by omega) ((hag k (by omega)).1.mp hp)
theorem EnO.mono {P : Nat → Prop} {key : Nat → Nat} {n nl : Nat} {ln : Nat → Nat} (h : EnO P key n nl ln) {i j : Nat} (hij : i ≤ j) (hj : j < nl) : key (ln i) ≤ key (ln j) := by
  by_cases e : i = j
  · rw [e]; exact Nat.le_refl _
  · rcases h.2.1 i j (by omega) hj with q | q <;> omega
theorem EnO.ins {P P' : Nat → Prop} {key key' : Nat → Nat} {n nl kk r : Nat} {ln : Nat → Nat} (h : EnO P key n nl ln) (hP : P' n) (hag : ∀ c, c < n → (P' c ↔ P c) ∧ key' c = key c) (hr : key' n = r) (hk : kk ≤ nl) (hge : ∀ i, kk ≤ i → i < nl → r < key (ln i)) (hle : kk = 0 ∨ key (ln (kk - 1)) ≤ r) : EnO P' key' (n + 1) (nl + 1) (inE ln kk n) := by
  have a := h
  obtain ⟨a1, a2, a3⟩ := h
  have kk' : ∀ i, i < nl → key' (ln i) = key (ln i) := fun i hi => (hag _ (a1 i hi).1).2
  have lo : ∀ i, i < kk → key (ln i) ≤ r := fun i hi => by
    rcases hle with z | z
    · omega
    · exact Nat.le_trans (a.mono (show i ≤ kk - 1 by omega) (by omega)) z
  refine ⟨fun i hi => ?_, fun i j h1 h2 => ?_, fun k hk2 hp => ?_⟩
  · unfold inE
    by_cases e : i < kk
    · rw [if_pos e]; exact ⟨Nat.lt_succ_of_lt (a1 i (by omega)).1, (hag _ (a1 i (by omega)).1).1.mpr (a1 i (by omega)).2⟩
    · rw [if_neg e]
      by_cases e2 : i = kk
      · rw [if_pos e2]; exact ⟨Nat.lt_succ_self _, hP⟩
      · rw [if_neg e2]; exact ⟨Nat.lt_succ_of_lt (a1 (i - 1) (by omega)).1, (hag _ (a1 (i - 1) (by omega)).1).1.mpr (a1 (i - 1) (by omega)).2⟩
  · unfold inE
    by_cases e : j < kk
    · rw [if_pos (show i < kk by omega), if_pos e, kk' i (by omega), kk' j (by omega)]; exact a2 i j h1 (by omega)
    · rw [if_neg e]
      by_cases e2 : j = kk
      · rw [if_pos (show i < kk by omega), if_pos e2, kk' i (by omega), hr]
        have := lo i (by omega)
        have := (a1 i (by omega)).1
        omega
      · rw [if_neg e2]
        by_cases e3 : i < kk
        · rw [if_pos e3, kk' i (by omega), kk' (j - 1) (by omega)]; exact a2 i (j - 1) (by omega) (by omega)
        · rw [if_neg e3]
          by_cases e4 : i = kk
          · rw [if_pos e4, hr, kk' (j - 1) (by omega)]; exact .inl (hge (j - 1) (by omega) (by omega))
          · rw [if_neg e4, kk' (i - 1) (by omega), kk' (j - 1) (by omega)]; exact a2 (i - 1) (j - 1) (by omega) (by omega)
  · by_cases e : k = n
    · subst e
      refine ⟨kk, by omega, ?_⟩
      unfold inE
      rw [if_neg (by omega), if_pos rfl]
    · obtain ⟨i, b1, b2⟩ := a3 k (by omega) ((hag k (by omega)).1.mp hp)
      by_cases e2 : i < kk
      · refine ⟨i, by omega, ?_⟩
        unfold inE
        rw [if_pos e2]; exact b2
      · refine ⟨i + 1, by omega, ?_⟩
        unfold inE
        rw [if_neg (by omega), if_neg (by omega), Nat.add_sub_cancel]; exact b2
def gaU (τ : Mu) (p m r t h q : Nat) : Mu := sI (sI (sI (sI (sI (sI (sI τ 38 (un τ 44 44) (nI p)) 39 (un τ 44 44) (nI m)) 40 (un τ 44 44) (nI r)) 41 (un τ 44 44) (nI t)) 42 (un τ 44 44) (nI h)) 43 (un τ 44 44) (nI q)) 44 44 (nI (un τ 44 44 + 1))
theorem ga_f {τ : Mu} {p m r t h q : Nat} (h9 : un τ 44 44 < 10) (hp : p < 2 ^ 31) (hm : m < 2 ^ 31) (hr : r < 2 ^ 31) (ht : t < 2 ^ 31) (hh : h < 2 ^ 31) (hq : q < 2 ^ 31) : (∀ k, k < 38 ∨ 44 < k → (gaU τ p m r t h q).1 k = τ.1 k) ∧ un (gaU τ p m r t h q) 44 44 = un τ 44 44 + 1 ∧ (∀ k, 38 ≤ k → k < 44 → ∀ c, c ≠ un τ 44 44 → (gaU τ p m r t h q).1 k c = τ.1 k c) ∧ (un (gaU τ p m r t h q) 38 (un τ 44 44) = p ∧ un (gaU τ p m r t h q) 39 (un τ 44 44) = m ∧ un (gaU τ p m r t h q) 40 (un τ 44 44) = r ∧ un (gaU τ p m r t h q) 41 (un τ 44 44) = t ∧ un (gaU τ p m r t h q) 42 (un τ 44 44) = h ∧ un (gaU τ p m r t h q) 43 (un τ 44 44) = q) := by
  have u : ∀ k x, (gaU τ p m r t h q).1 k x = up2 (up2 (up2 (up2 (up2 (up2 (up2 τ.1 38 (un τ 44 44) (nI p)) 39 (un τ 44 44) (nI m)) 40 (un τ 44 44) (nI r)) 41 (un τ 44 44) (nI t)) 42 (un τ 44 44) (nI h)) 43 (un τ 44 44) (nI q)) 44 44 (nI (un τ 44 44 + 1)) k x := fun k x => rfl
  refine ⟨fun k hk => ?_, nI_clamp (by omega), fun k h1 h2 c hc => ?_, ?_, ?_, ?_, ?_, ?_, ?_⟩
  · funext x
    rw [u, up2_row _ _ (by omega), up2_row _ _ (by omega), up2_row _ _ (by omega), up2_row _ _ (by omega), up2_row _ _ (by omega), up2_row _ _ (by omega), up2_row _ _ (by omega)]
  · rw [u]
    rcases (show k = 38 ∨ k = 39 ∨ k = 40 ∨ k = 41 ∨ k = 42 ∨ k = 43 by omega) with rfl | rfl | rfl | rfl | rfl | rfl <;> simp [up2, hc]
  · unfold un; rw [u]; simp only [up2_row _ _ (show (38 : Nat) ≠ 44 by decide), up2_row _ _ (show (38 : Nat) ≠ 43 by decide), up2_row _ _ (show (38 : Nat) ≠ 42 by decide), up2_row _ _ (show (38 : Nat) ≠ 41 by decide), up2_row _ _ (show (38 : Nat) ≠ 40 by decide), up2_row _ _ (show (38 : Nat) ≠ 39 by decide)]; exact (congrArg _ (up2_same _ _ _ _)).trans (nI_clamp hp)
  · unfold un; rw [u]; simp only [up2_row _ _ (show (39 : Nat) ≠ 44 by decide), up2_row _ _ (show (39 : Nat) ≠ 43 by decide), up2_row _ _ (show (39 : Nat) ≠ 42 by decide), up2_row _ _ (show (39 : Nat) ≠ 41 by decide), up2_row _ _ (show (39 : Nat) ≠ 40 by decide)]; exact (congrArg _ (up2_same _ _ _ _)).trans (nI_clamp hm)
  · unfold un; rw [u]; simp only [up2_row _ _ (show (40 : Nat) ≠ 44 by decide), up2_row _ _ (show (40 : Nat) ≠ 43 by decide), up2_row _ _ (show (40 : Nat) ≠ 42 by decide), up2_row _ _ (show (40 : Nat) ≠ 41 by decide)]; exact (congrArg _ (up2_same _ _ _ _)).trans (nI_clamp hr)
  · unfold un; rw [u]; simp only [up2_row _ _ (show (41 : Nat) ≠ 44 by decide), up2_row _ _ (show (41 : Nat) ≠ 43 by decide), up2_row _ _ (show (41 : Nat) ≠ 42 by decide)]; exact (congrArg _ (up2_same _ _ _ _)).trans (nI_clamp ht)
  · unfold un; rw [u]; simp only [up2_row _ _ (show (42 : Nat) ≠ 44 by decide), up2_row _ _ (show (42 : Nat) ≠ 43 by decide)]; exact (congrArg _ (up2_same _ _ _ _)).trans (nI_clamp hh)
  · unfold un; rw [u]; simp only [up2_row _ _ (show (43 : Nat) ≠ 44 by decide)]; exact (congrArg _ (up2_same _ _ _ _)).trans (nI_clamp hq)

theorem ga_w {τ : Mu} {G : gW} {α : Nat → Nat} {M M2 M4 : Mem} {z p m r t h q kk : Nat} {sz : Nat → Nat} {el ix : Nat → Nat → Nat} (hw : WF τ) (ws : WS τ G α M) (wt : WT τ α M) (wb : WB τ α M) (hn : un τ 44 44 ≠ 6) (hp : p < 6) (hm0 : m ≤ 23) (hr : r ≤ 9) (ht : t ≤ 100000000) (hh : h ≤ 1000) (hq : q ≤ 100000000)
    (hz : ∀ a, z ≤ a → mK M a = 0) (nb : NB tbGa z 2 [(0, 6, 1)] [] (gS G 0) (up2 (up2 (up2 (up2 (up2 (up2 zI 0 0 (nI p)) 0 1 (nI m)) 0 2 (nI r)) 0 3 (nI t)) 0 4 (nI h)) 0 5 (nI q)) zL (mMk M z) M2)
    (lw : LSW τ G α M sz el ix) (kp : KP (LX α (fun k => k = 27 ∨ k = 29 + 57 * p + 3)) (LB α (fun k => k = 27 ∨ k = 29 + 57 * p + 3) M2) M2 M4)
    (hkk : kk ≤ sz (29 + 57 * p + 3)) (hge : ∀ i, kk ≤ i → i < sz (29 + 57 * p + 3) → r < un τ 40 (ix (29 + 57 * p + 3) i)) (hle : kk = 0 ∨ un τ 40 (ix (29 + 57 * p + 3) (kk - 1)) ≤ r)
    (lz : LZ G α M4 (fun k => if k = 29 + 57 * p + 3 then sz (29 + 57 * p + 3) + 1 else (fun k => if k = 27 then sz 27 + 1 else sz k) k) (fun k => if k = 29 + 57 * p + 3 then inE (el (29 + 57 * p + 3)) kk z else (fun k => if k = 27 then (fun i => if i = sz 27 then z else el 27 i) else el k) k)) :
    WD (gaU τ p m r t h q) G (nw α (1100 + 2 * un τ 44 44) 2 z) (wI M4 (bO α p 0) 0 (nI 1)) ∧ KP (LX α (fun k => k = 27 ∨ k = 29 + 57 * p + 3)) (LB α (fun k => k = 27 ∨ k = 29 + 57 * p + 3) M) M M4 := by
  have h9 := hw.nc.2
  have h44 := hw.ng.2
  have h17 := hw.nl.2
  have h51 := hw.np.2
  have h46 := hw.op.2
  have hwU : WF (gaU τ p m r t h q) := wf_garnish hw hn (show p ≤ 5 by omega) hm0 hr ht hh hq
  obtain ⟨hU, u44, ko, s0, s1, s2, s3, s4, s5⟩ := ga_f (τ := τ) (p := p) (m := m) (r := r) (t := t) (h := h) (q := q) (by omega) (by omega) (by omega) (by omega) (by omega) (by omega) (by omega)
  have l2 : ∀ k, (gaU τ p m r t h q).2 k = τ.2 k := fun k => rfl
  generalize hUe : gaU τ p m r t h q = U at hU l2 u44 ko s0 s1 s2 s3 s4 s5 hwU ⊢
  have hα : ∀ k, LV τ k → α k < z := fun k hk => Nat.lt_of_not_le fun e => ws.kn hk (hz _ e)
  have hβ : ∀ k, LV τ k → nw α (1100 + 2 * un τ 44 44) 2 z k = α k := fun k hk => nw_o (fun e => by unfold LV at hk; omega)
  have hβn : ∀ o, o < 2 → aO (nw α (1100 + 2 * un τ 44 44) 2 z) (un τ 44 44) o = z + o := fun o ho => nw_n (s := 1100 + 2 * un τ 44 44) ho
  have hLU : ∀ k, LV U k → LV τ k ∨ (1100 + 2 * un τ 44 44 ≤ k ∧ k < 1100 + 2 * un τ 44 44 + 2) := fun k hk => by
    unfold LV at hk ⊢
    rw [u44, un_e (hU 9 (by omega)), un_e (hU 17 (by omega)), un_e (hU 51 (by omega))] at hk
    omega
  have hiU : INJ U (nw α (1100 + 2 * un τ 44 44) 2 z) := ws.1.new hα hLU (fun k hk e => by unfold LV at hk; omega)
  generalize hβe : nw α (1100 + 2 * un τ 44 44) 2 z = β at hβ hβn hiU ⊢
  have k02 : ∀ A B, KP A B M M2 := fun A B => (KP.mk hz).tr (nb.kp hz)
  have k04 := KP.join k02 kp
  have st : ∀ k, LV τ k → k ≠ 27 ∧ k ≠ 29 + 57 * p + 3 → mI M4 (α k) = mI M (α k) ∧ mL M4 (α k) = mL M (α k) := fun k hk hn => (k04 _ (ws.kn hk)).2.2.1 (LX.no ws hk (fun z => z.2.elim hn.1 hn.2))
  have hm : ∀ k, LV τ k → mK M4 (α k) = mK M (α k) ∧ mN M4 (α k) = mN M (α k) ∧ (¬ LC k → mR M4 (α k) = mR M (α k)) := fun k hk => ⟨(k04 _ (ws.kn hk)).1, (k04 _ (ws.kn hk)).2.1, fun q => (k04 _ (ws.kn hk)).2.2.2 (LB.no ws hk (fun z => q z.1))⟩
  have zk : ∀ o, o < 2 → mK M2 (z + o) = tbGa.1.getD o 0 ∧ mN M2 (z + o) = tbGa.2.1.getD o 0 := fun o ho => nb.1 o ho
  have zn : ∀ o, o < 2 → mK M2 (z + o) ≠ 0 ∧ mK M2 (z + o) ≠ 26 := fun o ho => by
    rw [(zk o ho).1]
    have c : (List.range 2).all (fun o => tbGa.1.getD o 0 != 0 && tbGa.1.getD o 0 != 26) = true := rfl
    have := List.all_eq_true.mp c o (List.mem_range.mpr ho)
    simpa using this
  have z4 : ∀ o, o < 2 → mK M4 (z + o) = mK M2 (z + o) ∧ mN M4 (z + o) = mN M2 (z + o) ∧ mI M4 (z + o) = mI M2 (z + o) ∧ mR M4 (z + o) = mR M2 (z + o) := fun o ho => by
    obtain ⟨c1, c2, c3, c4⟩ := kp _ (zn o ho).1
    have nx : ¬ LX α (fun k => k = 27 ∨ k = 29 + 57 * p + 3) (z + o) := fun ⟨k, h1, _, e⟩ => by have := hα k h1.lv; omega
    exact ⟨c1, c2, (c3 nx).1, c4 (fun y => y.elim nx (fun y => y.elim (zn o ho).2 (zn o ho).1))⟩
  have zI0 : mI M4 (z + 0) = (up2 (up2 (up2 (up2 (up2 (up2 zI 0 0 (nI p)) 0 1 (nI m)) 0 2 (nI r)) 0 3 (nI t)) 0 4 (nI h)) 0 5 (nI q)) 0 := (z4 0 (by decide)).2.2.1.trans (nb.2.2.2.2.1 0 (by decide)).1
  have blk : Blk tbGa (mK M4) (mN M4) (mR M4) (aO β (un τ 44 44)) := (nb.blk rfl rfl).xf rfl (fun o ho => ⟨hβn o ho, (z4 o ho).1, (z4 o ho).2.1⟩) (fun r hr => by
    have c : tbGa.2.2.all (fun r => decide (r.1 < 2)) = true := rfl
    have t := List.all_eq_true.mp c r hr
    simp only [decide_eq_true_eq] at t
    show mR M4 (z + r.1) r.2.1 = mR M2 (z + r.1) r.2.1
    rw [(z4 r.1 t).2.2.2])
  have u38 : ∀ c, c < un τ 44 44 → un U 38 c = un τ 38 c := fun c hc => un_cg (ko 38 (by decide) (by decide) c (by omega))
  have lsw : LSW U G β M4 (fun k => if k = 29 + 57 * p + 3 then sz (29 + 57 * p + 3) + 1 else (fun k => if k = 27 then sz 27 + 1 else sz k) k) (elc β (fun k => if k = 29 + 57 * p + 3 then inE (ix k) kk (un τ 44 44) else ix k)) (fun k => if k = 29 + 57 * p + 3 then inE (ix k) kk (un τ 44 44) else ix k) := by
    obtain ⟨_, ⟨g1, g2⟩, ⟨g3, g4⟩, ⟨g5, g6⟩, gp⟩ := lw
    refine LSW.of (lz.al (fun k hk => hβ k hk.lv)) (fun k hk => rfl) (fun k hk i hi => ?_) ?_ ?_ ?_ (fun r hr => ?_)
    · rcases hk with rfl | rfl | rfl | ⟨r, o, hr, h1, h2, rfl⟩
      · show cO β i 0 = (if 1 = 29 + 57 * p + 3 then inE (el (29 + 57 * p + 3)) kk z else el 1) i
        have hi2 : i < (if 1 = 29 + 57 * p + 3 then sz (29 + 57 * p + 3) + 1 else sz 1) := hi
        rw [if_neg (by omega)] at hi2 ⊢
        rw [g1] at hi2
        rw [g2]; exact hβ _ (lv_c hi2 (by decide))
      · show aO β i 0 = (if 27 = 29 + 57 * p + 3 then inE (el (29 + 57 * p + 3)) kk z else (fun i => if i = sz 27 then z else el 27 i)) i
        have hi2 : i < (if 27 = 29 + 57 * p + 3 then sz (29 + 57 * p + 3) + 1 else sz 27 + 1) := hi
        rw [if_neg (by omega)] at hi2 ⊢
        show aO β i 0 = if i = sz 27 then z else el 27 i
        rw [g3] at hi2 ⊢
        by_cases e : i = un τ 44 44
        · rw [if_pos e, e]; exact hβn 0 (by decide)
        · rw [if_neg e, g4]; exact hβ _ (lv_a (by omega) (by decide))
      · show yO β i = (if 28 = 29 + 57 * p + 3 then inE (el (29 + 57 * p + 3)) kk z else el 28) i
        have hi2 : i < (if 28 = 29 + 57 * p + 3 then sz (29 + 57 * p + 3) + 1 else sz 28) := hi
        rw [if_neg (by omega)] at hi2 ⊢
        rw [g5] at hi2
        rw [g6]; exact hβ _ (lv_y hi2)
      · obtain ⟨⟨e1, e2⟩, ⟨e3, e4⟩, ⟨e5, e6⟩⟩ := gp r hr
        rw [elc_p hr h1 h2]
        have hi2 : i < (if 29 + 57 * r + o = 29 + 57 * p + 3 then sz (29 + 57 * p + 3) + 1 else (if 29 + 57 * r + o = 27 then sz 27 + 1 else sz (29 + 57 * r + o))) := hi
        show _ = (if 29 + 57 * r + o = 29 + 57 * p + 3 then inE (el (29 + 57 * p + 3)) kk z else (if 29 + 57 * r + o = 27 then (fun i => if i = sz 27 then z else el 27 i) else el (29 + 57 * r + o))) i
        by_cases y : 29 + 57 * r + o = 29 + 57 * p + 3
        · obtain rfl : r = p := by omega
          obtain rfl : o = 3 := by omega
          rw [if_pos rfl] at hi2
          rw [if_neg (by decide), if_neg (by decide), if_pos rfl, if_pos rfl]
          show aO β (inE (ix (29 + 57 * r + 3)) kk (un τ 44 44) i) 0 = inE (el (29 + 57 * r + 3)) kk z i
          unfold inE
          by_cases e : i < kk
          · rw [if_pos e, if_pos e, e6]; exact hβ _ (lv_a (e5.1 i (by omega)).1 (by decide))
          · rw [if_neg e, if_neg e]
            by_cases e' : i = kk
            · rw [if_pos e', if_pos e']; exact hβn 0 (by decide)
            · rw [if_neg e', if_neg e', e6]; exact hβ _ (lv_a (e5.1 (i - 1) (by omega)).1 (by decide))
        · rw [if_neg y, if_neg (by omega)] at hi2
          rw [if_neg y, if_neg (show ¬ 29 + 57 * r + o = 27 by omega)]
          rcases (show o = 1 ∨ o = 2 ∨ o = 3 by omega) with rfl | rfl | rfl
          · rw [if_pos rfl, if_neg y, e2]; exact hβ _ (lv_c (e1.1 i hi2).1 (by decide))
          · rw [if_neg (by decide), if_pos rfl, if_neg y, e4]; exact hβ _ (lv_l (e3.1 i hi2).1)
          · rw [if_neg (by decide), if_neg (by decide), if_neg y, e6]; exact hβ _ (lv_a (e5.1 i hi2).1 (by decide))
    · show (if 1 = 29 + 57 * p + 3 then sz (29 + 57 * p + 3) + 1 else sz 1) = _
      rw [if_neg (by omega), g1, un_e (hU 9 (by omega))]
    · show (if 27 = 29 + 57 * p + 3 then sz (29 + 57 * p + 3) + 1 else sz 27 + 1) = _
      rw [if_neg (by omega), g3, u44]
    · show (if 28 = 29 + 57 * p + 3 then sz (29 + 57 * p + 3) + 1 else sz 28) = _
      rw [if_neg (by omega), g5, un_e (hU 51 (by omega))]
    · obtain ⟨⟨e1, e2⟩, ⟨e3, e4⟩, ⟨e5, e6⟩⟩ := gp r hr
      refine ⟨?_, ?_, ?_⟩
      · show EnN _ _ (if 29 + 57 * r + 1 = 29 + 57 * p + 3 then sz (29 + 57 * p + 3) + 1 else (if 29 + 57 * r + 1 = 27 then sz 27 + 1 else sz (29 + 57 * r + 1))) (if 29 + 57 * r + 1 = 29 + 57 * p + 3 then inE (ix (29 + 57 * r + 1)) kk (un τ 44 44) else ix (29 + 57 * r + 1))
        rw [if_neg (by omega), if_neg (by omega), if_neg (by omega), un_e (hU 9 (by omega))]
        exact e1.cg fun c _ => by rw [un_e (hU 0 (by omega))]
      · show EnL U r (if 29 + 57 * r + 2 = 29 + 57 * p + 3 then sz (29 + 57 * p + 3) + 1 else (if 29 + 57 * r + 2 = 27 then sz 27 + 1 else sz (29 + 57 * r + 2))) (if 29 + 57 * r + 2 = 29 + 57 * p + 3 then inE (ix (29 + 57 * r + 2)) kk (un τ 44 44) else ix (29 + 57 * r + 2))
        rw [if_neg (by omega), if_neg (by omega), if_neg (by omega)]
        exact e3.cg (congrFun (un_e (hU 17 (by omega))) 17) (fun k hk => ⟨by rw [un_e (hU 0 (by omega)), un_e (hU 14 (by omega))], congrFun (un_e (hU 15 (by omega))) k⟩)
      · show EnG U r (if 29 + 57 * r + 3 = 29 + 57 * p + 3 then sz (29 + 57 * p + 3) + 1 else (if 29 + 57 * r + 3 = 27 then sz 27 + 1 else sz (29 + 57 * r + 3))) (if 29 + 57 * r + 3 = 29 + 57 * p + 3 then inE (ix (29 + 57 * r + 3)) kk (un τ 44 44) else ix (29 + 57 * r + 3))
        have hag : ∀ c, c < un τ 44 44 → (un U 38 c = r ↔ un τ 38 c = r) ∧ un U 40 c = un τ 40 c := fun c hc => ⟨by rw [u38 c hc], un_cg (ko 40 (by decide) (by decide) c (by omega))⟩
        have e5' : EnO (fun g => un τ 38 g = r) (un τ 40) (un τ 44 44) (sz (29 + 57 * r + 3)) (ix (29 + 57 * r + 3)) := e5
        by_cases y : r = p
        · subst y
          rw [if_pos rfl, if_pos rfl]
          have := e5'.ins (P' := fun g => un U 38 g = r) (key' := un U 40) s0 hag s2 hkk hge hle
          rw [← u44] at this
          exact this
        · rw [if_neg (by omega), if_neg (by omega), if_neg (by omega)]
          have := e5'.skip (P' := fun g => un U 38 g = r) (key' := un U 40) (fun h => y (h.symm.trans s0)) hag
          rw [← u44] at this
          exact this
  have wsU : WS U G β M4 := ws.grow hw hβ hm hiU (fun c hc => .inl (by rw [un_e (hU 9 (by omega))] at hc; exact hc)) (fun c hc => by
    rw [u44] at hc
    by_cases e : c < un τ 44 44
    · exact .inl e
    · obtain rfl : c = un τ 44 44 := by omega
      exact .inr blk) (fun k hk => .inl ⟨by rw [un_e (hU 17 (by omega))] at hk; exact hk, congrFun (un_e (hU 14 (by omega))) k⟩) (fun k hk => .inl (by rw [un_e (hU 51 (by omega))] at hk; exact hk)) lsw
  have hvp : ∀ r, r < 6 → r ≠ p → VP r τ U := fun r hr hne => ⟨hw, VPc.of fun k hk => hU k (by omega), VPl.of (hU 0 (by omega)) fun k _ hk => hU k (by omega), VPe.of fun k _ hk => hU k (by omega), VPt.of (fun k _ hk => hU k (by omega)) (fun m _ => by rw [l2]),
    by rw [u44]; omega, fun c hc => by
      rw [u44] at hc
      by_cases e : c < un τ 44 44
      · rw [u38 c e]; exact ⟨fun y => ⟨e, y⟩, fun y => y.2⟩
      · obtain rfl : c = un τ 44 44 := by omega
        rw [s0]; exact ⟨fun y => absurd y.symm hne, fun y => absurd y.1 (by omega)⟩, fun c hc _ k h1 h2 => un_cg (ko k (by omega) h2 c (by omega))⟩
  obtain ⟨w1, w2, w3, w4, w5⟩ := wt
  have bp : bO α p 0 = bO β p 0 := (hβ _ (lv_b hp (by decide))).symm
  rw [bp]
  have ci : ∀ c, c < un τ 9 9 → ∀ o, o < 10 → mI M4 (cO α c o) = mI M (cO α c o) ∧ mL M4 (cO α c o) = mL M (cO α c o) := fun c hc o ho => st _ (lv_c hc ho) ⟨by omega, by omega⟩
  refine ⟨ch_w (τ := τ) hwU hp wsU ⟨fun c hc => ?_, fun r hr => ?_, fun q hq => ?_, ?_, ?_⟩ (fun c hc hcz => ?_) hvp (fun r hr hne hz0 => ?_), k04⟩
  · rw [un_e (hU 9 (by omega))] at hc
    exact WTc.al (fun o ho => hβ _ (lv_c hc ho)) (((w1 c hc).cg (fun k _ => congrFun (ci c hc 0 (by decide)).1 k) (fun o _ ho => (ci c hc o (by omega)).1)).u (fun k hk => hU k (by omega)))
  · exact (((w2 r hr).cg2 (fun o h1 ho => (st _ (lv_h hr (show o < 57 by omega)) ⟨by omega, by omega⟩).1) (fun o h1 ho => (st _ (lv_h hr (show o < 57 by omega)) ⟨by omega, by omega⟩).2)).u (hU 30 (by omega)) (hU 36 (by omega)) (hU 37 (by omega)) (hU 47 (by omega)) (hU 50 (by omega)) (hU 51 (by omega)) (l2 45) (l2 49)).al (fun o ho => hβ _ (lv_h hr (show o < 57 by omega)))
  · exact (((w3 q hq).cg (fun o ho => (st _ (lv_g hq ho) ⟨by omega, by omega⟩).1) (fun o ho => (st _ (lv_g hq ho) ⟨by omega, by omega⟩).2)).u (hU 31 (by omega)) (hU 32 (by omega)) (hU 33 (by omega)) (hU 34 (by omega)) (hU 35 (by omega)) (hU 54 (by omega)) (l2 52) (l2 53)).al (fun o ho => hβ _ (lv_g hq ho))
  · refine WTx.al (fun o ho => hβ o (lv_s (by omega))) ?_
    obtain ⟨b1, b2, b3, b4, b5, b6, b7⟩ := w4
    unfold WTx
    rw [(st 0 (lv_s (by decide)) ⟨by omega, by omega⟩).1, un_e (hU 13 (by omega)), un_e (hU 17 (by omega)), un_e (hU 18 (by omega)), un_e (hU 19 (by omega)), un_e (hU 20 (by omega)), un_e (hU 46 (by omega))]
    exact ⟨b1, b2, b3, b4, b5, b6, (b7.cgs (fun o ho => (st (4 + o) (lv_s (by omega)) ⟨by omega, by omega⟩).1)).u (hU 22 (by omega)) (hU 23 (by omega)) (hU 24 (by omega)) (hU 25 (by omega)) (hU 26 (by omega)) (hU 27 (by omega))⟩
  · obtain ⟨y1, y2, y3⟩ := (w5.cg (M1 := M4) (fun k hk => congrFun (st _ (lv_l hk) ⟨by omega, by omega⟩).1 1) (fun g hg => (st _ (lv_a hg (show 0 < 2 by decide)) ⟨by omega, by omega⟩).1) (fun k hk => st _ (lv_y hk) ⟨by omega, by omega⟩)).al hw hβ
    refine ⟨fun k hk => ?_, fun g hg => ?_, fun k hk => ?_⟩
    · rw [un_e (hU 17 (by omega))] at hk
      rw [un_e (hU 15 (by omega))]; exact y1 k hk
    · rw [u44] at hg
      by_cases e : g < un τ 44 44
      · have k6 := fun k (a : 38 ≤ k) (b : k < 44) => un_cg (ko k a b g (by omega))
        obtain ⟨a0, a1, a2, a3, a4, a5⟩ := y2 g e
        exact ⟨by rw [k6 38 (by decide) (by decide)]; exact a0, by rw [k6 39 (by decide) (by decide)]; exact a1, by rw [k6 40 (by decide) (by decide)]; exact a2, by rw [k6 41 (by decide) (by decide)]; exact a3, by rw [k6 42 (by decide) (by decide)]; exact a4, by rw [k6 43 (by decide) (by decide)]; exact a5⟩
      · obtain rfl : g = un τ 44 44 := by omega
        unfold GaF
        rw [hβn 0 (by decide), zI0, s0, s1, s2, s3, s4, s5]
        exact ⟨rfl, rfl, rfl, rfl, rfl, rfl⟩
    · rw [un_e (hU 51 (by omega))] at hk
      rw [un_e (hU 47 (by omega)), un_e (hU 48 (by omega)), un_e (hU 50 (by omega)), l2 49]; exact y3 k hk
  · rw [un_e (hU 9 (by omega))] at hc
    rw [show cO β c 0 = cO α c 0 from hβ _ (lv_c hc (by decide)), (ci c hc 0 (by decide)).1] at hcz
    have g := (wb.1 c hc hcz).u (U := U) (fun k hk => hU k (by omega))
    intro m hm
    rw [show cO β c 7 = cO α c 7 from hβ _ (lv_c hc (by decide)), show cO β c 8 = cO α c 8 from hβ _ (lv_c hc (by decide)), (ci c hc 7 (by decide)).2, (ci c hc 8 (by decide)).1]
    exact g m hm
  · have nb' : ∀ o, o < 42 → mI M4 (bO α r o) = mI M (bO α r o) ∧ mL M4 (bO α r o) = mL M (bO α r o) := fun o ho => st _ (lv_b hr ho) ⟨by omega, by omega⟩
    refine BF.al hr hβ (BF.cg nb' (fun g hg _ => (st _ (lv_a hg (show 1 < 2 by decide)) ⟨by omega, by omega⟩).2) (fun c hc _ => ⟨(ci c hc 8 (by decide)).1, (ci c hc 7 (by decide)).2, (ci c hc 9 (by decide)).2⟩) (fun k hk _ => congrFun (st _ (lv_l hk) ⟨by omega, by omega⟩).1 2) (wb.2 r hr ?_))
    rw [← (nb' 0 (by decide)).1, ← show bO β r 0 = bO α r 0 from hβ _ (lv_b hr (by decide))]
    exact hz0

