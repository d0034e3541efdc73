/-! WORLD: a new leave -/
theorem pl_ofd {τ : Mu} {G : gW} {α : Nat → Nat} {M : Mem} {p nl : Nat} {ln : Nat → Nat} (hi : INJ τ α) (hd : ∀ k, k < un τ 17 17 → mI M (lO α k) 1 = nI (un τ 15 k)) (h2 : EnL τ p nl ln) {h : Nat → Nat} (h5 : LI G M 8 (h 2) nl (fun i => lO α (ln i))) : PlL τ p G M h nl ln (fun i => lO α (ln i)) := by
  refine ⟨h5, h2, fun i hi => hd _ (h2.1 i hi).1, fun i j hi' hj e => ?_⟩
  have e2 := hi (1200 + ln i) (1200 + ln j) (lv_l (h2.1 i hi').1) (lv_l (h2.1 j hj).1) e
  have key : ∀ i j, i < j → j < nl → ln i ≠ ln j := fun i j a b z => by
    rcases h2.2.1 i j a b with q | q
    · rw [z] at q; omega
    · omega
  rcases Nat.lt_trichotomy i j with q | q | q
  · exact absurd (show ln i = ln j by omega) (key i j q hj)
  · exact q
  · exact absurd (show ln j = ln i by omega) (key j i q hi')
theorem KP.le {A B : Nat → Prop} {M : Mem} {z : Nat} {s : Option Nat} {v : Int32} (hz : ∀ a, z ≤ a → mK M a = 0) : KP A B M (wI (wR (wMk (mMk M z) z 9 0) z 0 s) z 1 v) := fun x hx => by
  have : x < z := Nat.lt_of_not_le fun e => hx (hz x e)
  exact ⟨va_up_ne _ _ (by omega), ((va_up_ne _ _ (by omega)).trans (va_up_ne _ _ (by omega))).trans (va_up_ne _ _ (by omega)), fun _ => ⟨(up2_row _ _ (by omega)).trans (va_up_ne _ _ (by omega)), va_up_ne _ _ (by omega)⟩, fun _ => (up2_row _ _ (by omega)).trans (va_up_ne _ _ (by omega))⟩
def leU (τ : Mu) (c d : Nat) : Mu := sI (sI (sI τ 14 (un τ 17 17) (nI c)) 15 (un τ 17 17) (nI d)) 17 17 (nI (un τ 17 17 + 1))
theorem le_f {τ : Mu} {c d : Nat} (h17 : un τ 17 17 < 100) (hc : c < 2 ^ 31) (hd : d < 2 ^ 31) : (∀ k, k ≠ 14 → k ≠ 15 → k ≠ 17 → (leU τ c d).1 k = τ.1 k) ∧ un (leU τ c d) 17 17 = un τ 17 17 + 1 ∧ (∀ k, k ≠ un τ 17 17 → un (leU τ c d) 14 k = un τ 14 k ∧ un (leU τ c d) 15 k = un τ 15 k) ∧ un (leU τ c d) 14 (un τ 17 17) = c ∧ un (leU τ c d) 15 (un τ 17 17) = d := by
  have u : ∀ k x, (leU τ c d).1 k x = up2 (up2 (up2 τ.1 14 (un τ 17 17) (nI c)) 15 (un τ 17 17) (nI d)) 17 17 (nI (un τ 17 17 + 1)) k x := fun k x => rfl
  refine ⟨fun k h1 h2 h3 => ?_, nI_clamp (by omega), fun k hk => ⟨un_cg ?_, un_cg ?_⟩, ?_, ?_⟩
  · funext x
    rw [u, up2_row _ _ h3, up2_row _ _ h2, up2_row _ _ h1]
  · rw [u, up2_row _ _ (by decide), up2_row _ _ (by decide), up2_k _ _ hk]
  · rw [u, up2_row _ _ (by decide), up2_k _ _ hk, up2_row _ _ (by decide)]
  · unfold un; rw [u]; simp only [up2_row _ _ (show (14 : Nat) ≠ 17 by decide), up2_row _ _ (show (14 : Nat) ≠ 15 by decide)]; exact (congrArg _ (up2_same _ _ _ _)).trans (nI_clamp hc)
  · unfold un; rw [u]; simp only [up2_row _ _ (show (15 : Nat) ≠ 17 by decide)]; exact (congrArg _ (up2_same _ _ _ _)).trans (nI_clamp hd)

theorem le_s {τ : Mu} {G : gW} {α : Nat → Nat} {M M2 M3 : Mem} {z p c d kk : Nat} {sz : Nat → Nat} {el ix : Nat → Nat → Nat} (hw : WF τ) (ws : WS τ G α M) (wt : WT τ α M) (wb : WB τ α M) (hn : un τ 17 17 ≠ 30) (hc : c < un τ 9 9) (hd1 : un τ 2 c ≤ d) (hd2 : d ≤ un τ 3 c) (hpc : un τ 0 c = p)
    (hz : ∀ a, z ≤ a → mK M a = 0) (hM2 : M2 = wI (wR (wMk (mMk M z) z 9 0) z 0 (some (cO α c 0))) z 1 (nI d))
    (lw : LSW τ G α M sz el ix) (kp : KP (LX α (fun k => k = 29 + 57 * p + 2)) (LB α (fun k => k = 29 + 57 * p + 2) M2) M2 M3)
    (hkk : kk ≤ sz (29 + 57 * p + 2)) (hge : ∀ i, kk ≤ i → i < sz (29 + 57 * p + 2) → d < un τ 15 (ix (29 + 57 * p + 2) i)) (hle : kk = 0 ∨ un τ 15 (ix (29 + 57 * p + 2) (kk - 1)) ≤ d)
    (lz : LZ G α M3 (fun k => if k = 29 + 57 * p + 2 then sz (29 + 57 * p + 2) + 1 else sz k) (fun k => if k = 29 + 57 * p + 2 then inE (el (29 + 57 * p + 2)) kk z else el k)) :
    ∃ nc cn nl ln, PcL (leU τ c d) p G M3 (hO α p) nc cn (fun i => cO (nw α (1200 + un τ 17 17) 1 z) (cn i)) ∧ PlL (leU τ c d) p G M3 (hO α p) nl ln (fun i => lO (nw α (1200 + un τ 17 17) 1 z) (ln i)) ∧ (∀ a, LaA nl (fun i => lO (nw α (1200 + un τ 17 17) 1 z) (ln i)) a → a ≠ hO α p 1 ∧ a ≠ hO α p 2 ∧ ∀ i, i < nc → ∀ o, o < 10 → a ≠ cO (nw α (1200 + un τ 17 17) 1 z) (cn i) o) ∧ EnL (leU τ c d) p nl ln ∧ KP (LX α (fun k => k = 29 + 57 * p + 2)) (LB α (fun k => k = 29 + 57 * p + 2) M) M M3 := by
  have h9 := hw.nc.2
  have h44 := hw.ng.2
  have h17 := hw.nl.2
  have h51 := hw.np.2
  have h46 := hw.op.2
  have hp : p < 6 := by have := (hw.cw c hc).2; omega
  have hct := (hw.ct c hc).2
  have hwU : WF (leU τ c d) := wf_leave hw hn hc hd1 hd2
  obtain ⟨hU, u17, ko, s14, s15⟩ := le_f (τ := τ) (c := c) (d := d) (by omega) (by omega) (by omega)
  have l2 : ∀ k, (leU τ c d).2 k = τ.2 k := fun k => rfl
  generalize hUe : leU τ c d = U at hU l2 u17 ko s14 s15 hwU ⊢
  have hα : ∀ k, LV τ k → α k < z := fun k hk => Nat.lt_of_not_le fun e => ws.kn hk (hz _ e)
  have hβ : ∀ k, LV τ k → nw α (1200 + un τ 17 17) 1 z k = α k := fun k hk => nw_o (fun e => by unfold LV at hk; omega)
  have hβn : lO (nw α (1200 + un τ 17 17) 1 z) (un τ 17 17) = z := nw_n (s := 1200 + un τ 17 17) (o := 0) (by decide)
  have hLU : ∀ k, LV U k → LV τ k ∨ (1200 + un τ 17 17 ≤ k ∧ k < 1200 + un τ 17 17 + 1) := fun k hk => by
    unfold LV at hk ⊢
    rw [u17, un_e (hU 9 (by decide) (by decide) (by decide)), un_e (hU 44 (by decide) (by decide) (by decide)), un_e (hU 51 (by decide) (by decide) (by decide))] at hk
    omega
  have hiU : INJ U (nw α (1200 + un τ 17 17) 1 z) := ws.1.new hα hLU (fun k hk e => by unfold LV at hk; omega)
  generalize hβe : nw α (1200 + un τ 17 17) 1 z = β at hβ hβn hiU ⊢
  have k02 : ∀ A B, KP A B M M2 := fun A B => by rw [hM2]; exact KP.le hz
  have k04 := KP.join k02 kp
  have st : ∀ k, LV τ k → k ≠ 29 + 57 * p + 2 → mI M3 (α k) = mI M (α k) ∧ mL M3 (α k) = mL M (α k) := fun k hk hn => (k04 _ (ws.kn hk)).2.2.1 (LX.no ws hk (fun z => hn z.2))
  have hm : ∀ k, LV τ k → mK M3 (α k) = mK M (α k) ∧ mN M3 (α k) = mN M (α k) ∧ (¬ LC k → mR M3 (α k) = mR M (α k)) := fun k hk => ⟨(k04 _ (ws.kn hk)).1, (k04 _ (ws.kn hk)).2.1, fun q => (k04 _ (ws.kn hk)).2.2.2 (LB.no ws hk (fun z => q z.1))⟩
  have zk2 : mK M2 z = 9 ∧ mR M2 z 0 = some (cO α c 0) ∧ mI M2 z 1 = nI d := by
    rw [hM2]
    exact ⟨va_up_self _ _ _, up2_same _ _ _ _, up2_same _ _ _ _⟩
  have z3 : mK M3 z = 9 ∧ mR M3 z 0 = some (cO α c 0) ∧ mI M3 z 1 = nI d := by
    obtain ⟨c1, c2, c3, c4⟩ := kp z (by rw [zk2.1]; decide)
    have nx : ¬ LX α (fun k => k = 29 + 57 * p + 2) z := fun ⟨k, h1, _, e⟩ => by have := hα k h1.lv; omega
    exact ⟨c1.trans zk2.1, (congrFun (c4 (fun y => y.elim nx (fun y => y.elim (fun y => by rw [zk2.1] at y; cases y) (fun y => by rw [zk2.1] at y; cases y)))) 0).trans zk2.2.1, (congrFun (c3 nx).1 1).trans zk2.2.2⟩
  have u014 : ∀ k, k < un τ 17 17 → un U 0 (un U 14 k) = un τ 0 (un τ 14 k) := fun k hk => by rw [(ko k (by omega)).1, un_e (hU 0 (by decide) (by decide) (by decide))]
  have lday : ∀ k, k < un U 17 17 → mI M3 (lO β k) 1 = nI (un U 15 k) := fun k hk => by
    rw [u17] at hk
    by_cases e : k < un τ 17 17
    · rw [show lO β k = lO α k from hβ _ (lv_l e), (ko k (by omega)).2]
      exact (congrFun (st _ (lv_l e) (by omega)).1 1).trans (wt.2.2.2.2.1 k e)
    · obtain rfl : k = un τ 17 17 := by omega
      rw [hβn, s15]; exact z3.2.2
  have lsw : LSW U G β M3 (fun k => if k = 29 + 57 * p + 2 then sz (29 + 57 * p + 2) + 1 else sz k) (elc β (fun k => if k = 29 + 57 * p + 2 then inE (ix k) kk (un τ 17 17) else ix k)) (fun k => if k = 29 + 57 * p + 2 then inE (ix k) kk (un τ 17 17) else ix k) := by
    obtain ⟨_, ⟨g1, g2⟩, ⟨g3, g4⟩, ⟨g5, g6⟩, gp⟩ := lw
    refine LSW.of (lz.al (fun k hk => hβ k hk.lv)) (fun k hk => rfl) (fun k hk i hi => ?_) ?_ ?_ ?_ (fun r hr => ?_)
    · rcases hk with rfl | rfl | rfl | ⟨r, o, hr, h1, h2, rfl⟩
      · show cO β i 0 = (if 1 = 29 + 57 * p + 2 then inE (el (29 + 57 * p + 2)) kk z else el 1) i
        have hi2 : i < (if 1 = 29 + 57 * p + 2 then sz (29 + 57 * p + 2) + 1 else sz 1) := hi
        rw [if_neg (by omega)] at hi2 ⊢
        rw [g1] at hi2
        rw [g2]; exact hβ _ (lv_c hi2 (by decide))
      · show aO β i 0 = (if 27 = 29 + 57 * p + 2 then inE (el (29 + 57 * p + 2)) kk z else el 27) i
        have hi2 : i < (if 27 = 29 + 57 * p + 2 then sz (29 + 57 * p + 2) + 1 else sz 27) := hi
        rw [if_neg (by omega)] at hi2 ⊢
        rw [g3] at hi2
        rw [g4]; exact hβ _ (lv_a hi2 (by decide))
      · show yO β i = (if 28 = 29 + 57 * p + 2 then inE (el (29 + 57 * p + 2)) kk z else el 28) i
        have hi2 : i < (if 28 = 29 + 57 * p + 2 then sz (29 + 57 * p + 2) + 1 else sz 28) := hi
        rw [if_neg (by omega)] at hi2 ⊢
        rw [g5] at hi2
        rw [g6]; exact hβ _ (lv_y hi2)
      · obtain ⟨⟨e1, e2⟩, ⟨e3, e4⟩, ⟨e5, e6⟩⟩ := gp r hr
        rw [elc_p hr h1 h2]
        have hi2 : i < (if 29 + 57 * r + o = 29 + 57 * p + 2 then sz (29 + 57 * p + 2) + 1 else sz (29 + 57 * r + o)) := hi
        show _ = (if 29 + 57 * r + o = 29 + 57 * p + 2 then inE (el (29 + 57 * p + 2)) kk z else el (29 + 57 * r + o)) i
        by_cases y : 29 + 57 * r + o = 29 + 57 * p + 2
        · obtain rfl : r = p := by omega
          obtain rfl : o = 2 := by omega
          rw [if_pos rfl] at hi2
          rw [if_neg (by decide), if_pos rfl, if_pos rfl, if_pos rfl]
          show lO β (inE (ix (29 + 57 * r + 2)) kk (un τ 17 17) i) = inE (el (29 + 57 * r + 2)) kk z i
          unfold inE
          by_cases e : i < kk
          · rw [if_pos e, if_pos e, e4]; exact hβ _ (lv_l (e3.1 i (by omega)).1)
          · rw [if_neg e, if_neg e]
            by_cases e' : i = kk
            · rw [if_pos e', if_pos e']; exact hβn
            · rw [if_neg e', if_neg e', e4]; exact hβ _ (lv_l (e3.1 (i - 1) (by omega)).1)
        · rw [if_neg y] at hi2
          rw [if_neg y]
          rcases (show o = 1 ∨ o = 2 ∨ o = 3 by omega) with rfl | rfl | rfl
          · rw [if_pos rfl, if_neg y, e2]; exact hβ _ (lv_c (e1.1 i hi2).1 (by decide))
          · rw [if_neg (by decide), if_pos rfl, if_neg y, e4]; exact hβ _ (lv_l (e3.1 i hi2).1)
          · rw [if_neg (by decide), if_neg (by decide), if_neg y, e6]; exact hβ _ (lv_a (e5.1 i hi2).1 (by decide))
    · show (if 1 = 29 + 57 * p + 2 then sz (29 + 57 * p + 2) + 1 else sz 1) = _
      rw [if_neg (by omega), g1, un_e (hU 9 (by decide) (by decide) (by decide))]
    · show (if 27 = 29 + 57 * p + 2 then sz (29 + 57 * p + 2) + 1 else sz 27) = _
      rw [if_neg (by omega), g3, un_e (hU 44 (by decide) (by decide) (by decide))]
    · show (if 28 = 29 + 57 * p + 2 then sz (29 + 57 * p + 2) + 1 else sz 28) = _
      rw [if_neg (by omega), g5, un_e (hU 51 (by decide) (by decide) (by decide))]
    · obtain ⟨⟨e1, e2⟩, ⟨e3, e4⟩, ⟨e5, e6⟩⟩ := gp r hr
      refine ⟨?_, ?_, ?_⟩
      · show EnN _ _ (if 29 + 57 * r + 1 = 29 + 57 * p + 2 then sz (29 + 57 * p + 2) + 1 else sz (29 + 57 * r + 1)) (if 29 + 57 * r + 1 = 29 + 57 * p + 2 then inE (ix (29 + 57 * r + 1)) kk (un τ 17 17) else ix (29 + 57 * r + 1))
        rw [if_neg (by omega), if_neg (by omega), un_e (hU 9 (by decide) (by decide) (by decide))]
        exact e1.cg fun c _ => by rw [un_e (hU 0 (by decide) (by decide) (by decide))]
      · show EnL U r (if 29 + 57 * r + 2 = 29 + 57 * p + 2 then sz (29 + 57 * p + 2) + 1 else sz (29 + 57 * r + 2)) (if 29 + 57 * r + 2 = 29 + 57 * p + 2 then inE (ix (29 + 57 * r + 2)) kk (un τ 17 17) else ix (29 + 57 * r + 2))
        have hag : ∀ c, c < un τ 17 17 → (un U 0 (un U 14 c) = r ↔ un τ 0 (un τ 14 c) = r) ∧ un U 15 c = un τ 15 c := fun c hc => ⟨by rw [u014 c hc], (ko c (by omega)).2⟩
        have e3' : EnO (fun k => un τ 0 (un τ 14 k) = r) (un τ 15) (un τ 17 17) (sz (29 + 57 * r + 2)) (ix (29 + 57 * r + 2)) := e3
        have own : un U 0 (un U 14 (un τ 17 17)) = p := by rw [s14, un_e (hU 0 (by decide) (by decide) (by decide))]; exact hpc
        by_cases y : r = p
        · subst y
          rw [if_pos rfl, if_pos rfl]
          have := e3'.ins (P' := fun k => un U 0 (un U 14 k) = r) (key' := un U 15) own hag s15 hkk hge hle
          rw [← u17] at this
          exact this
        · rw [if_neg (by omega), if_neg (by omega)]
          have := e3'.skip (P' := fun k => un U 0 (un U 14 k) = r) (key' := un U 15) (fun h => y (h.symm.trans own)) hag
          rw [← u17] at this
          exact this
      · show EnG U r (if 29 + 57 * r + 3 = 29 + 57 * p + 2 then sz (29 + 57 * p + 2) + 1 else sz (29 + 57 * r + 3)) (if 29 + 57 * r + 3 = 29 + 57 * p + 2 then inE (ix (29 + 57 * r + 3)) kk (un τ 17 17) else ix (29 + 57 * r + 3))
        rw [if_neg (by omega), if_neg (by omega)]
        exact e5.cg (congrFun (un_e (hU 44 (by decide) (by decide) (by decide))) 44) (fun k hk => ⟨congrFun (un_e (hU 38 (by decide) (by decide) (by decide))) k, congrFun (un_e (hU 40 (by decide) (by decide) (by decide))) k⟩)
  have cb : ∀ c', c' < un τ 9 9 → cO β c' 0 = cO α c' 0 := fun c' h => hβ _ (lv_c h (by decide))
  have wsU : WS U G β M3 := ws.grow hw hβ hm hiU (fun c hc => .inl (by rw [un_e (hU 9 (by decide) (by decide) (by decide))] at hc; exact hc)) (fun g hg => .inl (by rw [un_e (hU 44 (by decide) (by decide) (by decide))] at hg; exact hg)) (fun k hk => by
    rw [u17] at hk
    by_cases e : k < un τ 17 17
    · exact .inl ⟨e, (ko k (by omega)).1⟩
    · obtain rfl : k = un τ 17 17 := by omega
      rw [hβn, s14, cb c hc]
      exact .inr ⟨z3.1, z3.2.1⟩) (fun k hk => .inl (by rw [un_e (hU 51 (by decide) (by decide) (by decide))] at hk; exact hk)) lsw
  obtain ⟨w1, w2, w3, w4, w5⟩ := wt
  have ci : ∀ c, c < un τ 9 9 → ∀ o, o < 10 → mI M3 (cO α c o) = mI M (cO α c o) ∧ mL M3 (cO α c o) = mL M (cO α c o) := fun c hc o ho => st _ (lv_c hc ho) (by omega)
  have ho : ∀ o, o < 57 → hO β p o = hO α p o := fun o h => hβ _ (lv_h hp h)
  have ao : ∀ x, x < un τ 9 9 → CAg x τ U := fun x hx => ⟨fun k hk => congrFun (un_e (hU k (by omega) (by omega) (by omega))) x, fun d hd => ⟨fun _ _ => congrFun (un_e (hU 7 (by decide) (by decide) (by decide))) _, congrFun (un_e (hU 8 (by decide) (by decide) (by decide))) _⟩⟩
  have r3 : ∀ x, x < un τ 9 9 → ∃ sn sk, EnN (fun k => un U 10 k = x) (un U 13 13) sn sk ∧ mI M3 (cO α x 0) 10 = nI sn ∧ ∀ j, j < sn → mI M3 (cO α x 5) j = nI (un U 11 (sk j)) ∧ mI M3 (cO α x 6) j = nI (un U 11 (sk j) + un U 12 (sk j)) := fun x hx => by
    obtain ⟨_, _, sn, sk, a1, a2, a3⟩ := w1 x hx
    rw [un_e (hU 10 (by decide) (by decide) (by decide)), un_e (hU 11 (by decide) (by decide) (by decide)), un_e (hU 12 (by decide) (by decide) (by decide)), un_e (hU 13 (by decide) (by decide) (by decide)), (ci x hx 0 (by decide)).1, (ci x hx 5 (by decide)).1, (ci x hx 6 (by decide)).1]
    exact ⟨sn, sk, a1, a2, a3⟩
  have wc3 : ∀ x, x < un τ 9 9 → WTc U β M3 x := fun x hx => WTc.al (fun o ho => hβ _ (lv_c hx ho)) (((w1 x hx).cg (fun k _ => congrFun (ci x hx 0 (by decide)).1 k) (fun o _ ho => (ci x hx o (by omega)).1)).ag hw hx (ao x hx) (fun d _ => congrFun (hU 6 (by decide) (by decide) (by decide)) _) (r3 x hx))
  obtain ⟨nc, cn, nl, ln, ng, gn, pw1, pw2, pw3, pw4, pw5, pw6⟩ := wsU.2.2.2.2.2.2.2.2.2.2.2.1 p hp
  rw [ho 1 (by decide)] at pw4
  rw [ho 2 (by decide)] at pw5
  refine ⟨nc, cn, nl, ln, ⟨pw4, pw1, fun i hi => ⟨wsU.2.2.2.2.1 _ (pw1.1 i hi).1, ?_⟩⟩, pl_ofd wsU.1 lday pw2 pw5, fun a ha => ?_, pw2, k04⟩
  · have h := (pw1.1 i hi).1
    rw [un_e (hU 9 (by decide) (by decide) (by decide))] at h
    exact (wc3 _ h).1
  · have g := dj_of wsU.1 hwU hp pw1 pw2 a ha
    rw [ho 1 (by decide), ho 2 (by decide)] at g
    exact g

theorem le_w {τ : Mu} {G : gW} {α : Nat → Nat} {M M2 M3 M4 : Mem} {z p c d kk : Nat} {sz : Nat → Nat} {el ix : Nat → Nat → Nat} (hw : WF τ) (ws : WS τ G α M) (wt : WT τ α M) (wb : WB τ α M) (hn : un τ 17 17 ≠ 30) (hc : c < un τ 9 9) (hd1 : un τ 2 c ≤ d) (hd2 : d ≤ un τ 3 c) (hpc : un τ 0 c = p)
    (hz : ∀ a, z ≤ a → mK M a = 0) (hM2 : M2 = wI (wR (wMk (mMk M z) z 9 0) z 0 (some (cO α c 0))) z 1 (nI d))
    (lw : LSW τ G α M sz el ix) (kp : KP (LX α (fun k => k = 29 + 57 * p + 2)) (LB α (fun k => k = 29 + 57 * p + 2) M2) M2 M3)
    (hkk : kk ≤ sz (29 + 57 * p + 2)) (hge : ∀ i, kk ≤ i → i < sz (29 + 57 * p + 2) → d < un τ 15 (ix (29 + 57 * p + 2) i)) (hle : kk = 0 ∨ un τ 15 (ix (29 + 57 * p + 2) (kk - 1)) ≤ d)
    (lz : LZ G α M3 (fun k => if k = 29 + 57 * p + 2 then sz (29 + 57 * p + 2) + 1 else sz k) (fun k => if k = 29 + 57 * p + 2 then inE (el (29 + 57 * p + 2)) kk z else el k)) {nl : Nat} {ln : Nat → Nat} (hln : EnL (leU τ c d) p nl ln) (g : frm (LaA nl (fun i => lO (nw α (1200 + un τ 17 17) 1 z) (ln i))) M3 M4) (g1 : ∀ i, i < nl → ∀ k, k ≠ 2 → mI M4 (lO (nw α (1200 + un τ 17 17) 1 z) (ln i)) k = mI M3 (lO (nw α (1200 + un τ 17 17) 1 z) (ln i)) k) :
    WD (leU τ c d) G (nw α (1200 + un τ 17 17) 1 z) (wI (wI M4 (bO α p 0) 0 (nI 1)) (α 0) 7 (nI (un τ 17 17 + 1))) ∧ CF τ α M (wI (wI M4 (bO α p 0) 0 (nI 1)) (α 0) 7 (nI (un τ 17 17 + 1))) ∧ α 0 ≠ bO α p 0 := by
  have h9 := hw.nc.2
  have h44 := hw.ng.2
  have h17 := hw.nl.2
  have h51 := hw.np.2
  have h46 := hw.op.2
  have hp : p < 6 := by have := (hw.cw c hc).2; omega
  have hct := (hw.ct c hc).2
  have hwU : WF (leU τ c d) := wf_leave hw hn hc hd1 hd2
  obtain ⟨hU, u17, ko, s14, s15⟩ := le_f (τ := τ) (c := c) (d := d) (by omega) (by omega) (by omega)
  have l2 : ∀ k, (leU τ c d).2 k = τ.2 k := fun k => rfl
  generalize hUe : leU τ c d = U at hU l2 u17 ko s14 s15 hwU hln g g1 ⊢
  have hα : ∀ k, LV τ k → α k < z := fun k hk => Nat.lt_of_not_le fun e => ws.kn hk (hz _ e)
  have hβ : ∀ k, LV τ k → nw α (1200 + un τ 17 17) 1 z k = α k := fun k hk => nw_o (fun e => by unfold LV at hk; omega)
  have hβn : lO (nw α (1200 + un τ 17 17) 1 z) (un τ 17 17) = z := nw_n (s := 1200 + un τ 17 17) (o := 0) (by decide)
  have hLU : ∀ k, LV U k → LV τ k ∨ (1200 + un τ 17 17 ≤ k ∧ k < 1200 + un τ 17 17 + 1) := fun k hk => by
    unfold LV at hk ⊢
    rw [u17, un_e (hU 9 (by decide) (by decide) (by decide)), un_e (hU 44 (by decide) (by decide) (by decide)), un_e (hU 51 (by decide) (by decide) (by decide))] at hk
    omega
  have hiU : INJ U (nw α (1200 + un τ 17 17) 1 z) := ws.1.new hα hLU (fun k hk e => by unfold LV at hk; omega)
  generalize hβe : nw α (1200 + un τ 17 17) 1 z = β at hβ hβn hiU hln g g1 ⊢
  have k02 : ∀ A B, KP A B M M2 := fun A B => by rw [hM2]; exact KP.le hz
  have k04 := KP.join k02 kp
  have st : ∀ k, LV τ k → k ≠ 29 + 57 * p + 2 → mI M3 (α k) = mI M (α k) ∧ mL M3 (α k) = mL M (α k) := fun k hk hn => (k04 _ (ws.kn hk)).2.2.1 (LX.no ws hk (fun z => hn z.2))
  have hm : ∀ k, LV τ k → mK M3 (α k) = mK M (α k) ∧ mN M3 (α k) = mN M (α k) ∧ (¬ LC k → mR M3 (α k) = mR M (α k)) := fun k hk => ⟨(k04 _ (ws.kn hk)).1, (k04 _ (ws.kn hk)).2.1, fun q => (k04 _ (ws.kn hk)).2.2.2 (LB.no ws hk (fun z => q z.1))⟩
  have zk2 : mK M2 z = 9 ∧ mR M2 z 0 = some (cO α c 0) ∧ mI M2 z 1 = nI d := by
    rw [hM2]
    exact ⟨va_up_self _ _ _, up2_same _ _ _ _, up2_same _ _ _ _⟩
  have z3 : mK M3 z = 9 ∧ mR M3 z 0 = some (cO α c 0) ∧ mI M3 z 1 = nI d := by
    obtain ⟨c1, c2, c3, c4⟩ := kp z (by rw [zk2.1]; decide)
    have nx : ¬ LX α (fun k => k = 29 + 57 * p + 2) z := fun ⟨k, h1, _, e⟩ => by have := hα k h1.lv; omega
    exact ⟨c1.trans zk2.1, (congrFun (c4 (fun y => y.elim nx (fun y => y.elim (fun y => by rw [zk2.1] at y; cases y) (fun y => by rw [zk2.1] at y; cases y)))) 0).trans zk2.2.1, (congrFun (c3 nx).1 1).trans zk2.2.2⟩
  have u014 : ∀ k, k < un τ 17 17 → un U 0 (un U 14 k) = un τ 0 (un τ 14 k) := fun k hk => by rw [(ko k (by omega)).1, un_e (hU 0 (by decide) (by decide) (by decide))]
  have lday : ∀ k, k < un U 17 17 → mI M3 (lO β k) 1 = nI (un U 15 k) := fun k hk => by
    rw [u17] at hk
    by_cases e : k < un τ 17 17
    · rw [show lO β k = lO α k from hβ _ (lv_l e), (ko k (by omega)).2]
      exact (congrFun (st _ (lv_l e) (by omega)).1 1).trans (wt.2.2.2.2.1 k e)
    · obtain rfl : k = un τ 17 17 := by omega
      rw [hβn, s15]; exact z3.2.2
  have lsw : LSW U G β M3 (fun k => if k = 29 + 57 * p + 2 then sz (29 + 57 * p + 2) + 1 else sz k) (elc β (fun k => if k = 29 + 57 * p + 2 then inE (ix k) kk (un τ 17 17) else ix k)) (fun k => if k = 29 + 57 * p + 2 then inE (ix k) kk (un τ 17 17) else ix k) := by
    obtain ⟨_, ⟨g1, g2⟩, ⟨g3, g4⟩, ⟨g5, g6⟩, gp⟩ := lw
    refine LSW.of (lz.al (fun k hk => hβ k hk.lv)) (fun k hk => rfl) (fun k hk i hi => ?_) ?_ ?_ ?_ (fun r hr => ?_)
    · rcases hk with rfl | rfl | rfl | ⟨r, o, hr, h1, h2, rfl⟩
      · show cO β i 0 = (if 1 = 29 + 57 * p + 2 then inE (el (29 + 57 * p + 2)) kk z else el 1) i
        have hi2 : i < (if 1 = 29 + 57 * p + 2 then sz (29 + 57 * p + 2) + 1 else sz 1) := hi
        rw [if_neg (by omega)] at hi2 ⊢
        rw [g1] at hi2
        rw [g2]; exact hβ _ (lv_c hi2 (by decide))
      · show aO β i 0 = (if 27 = 29 + 57 * p + 2 then inE (el (29 + 57 * p + 2)) kk z else el 27) i
        have hi2 : i < (if 27 = 29 + 57 * p + 2 then sz (29 + 57 * p + 2) + 1 else sz 27) := hi
        rw [if_neg (by omega)] at hi2 ⊢
        rw [g3] at hi2
        rw [g4]; exact hβ _ (lv_a hi2 (by decide))
      · show yO β i = (if 28 = 29 + 57 * p + 2 then inE (el (29 + 57 * p + 2)) kk z else el 28) i
        have hi2 : i < (if 28 = 29 + 57 * p + 2 then sz (29 + 57 * p + 2) + 1 else sz 28) := hi
        rw [if_neg (by omega)] at hi2 ⊢
        rw [g5] at hi2
        rw [g6]; exact hβ _ (lv_y hi2)
      · obtain ⟨⟨e1, e2⟩, ⟨e3, e4⟩, ⟨e5, e6⟩⟩ := gp r hr
        rw [elc_p hr h1 h2]
        have hi2 : i < (if 29 + 57 * r + o = 29 + 57 * p + 2 then sz (29 + 57 * p + 2) + 1 else sz (29 + 57 * r + o)) := hi
        show _ = (if 29 + 57 * r + o = 29 + 57 * p + 2 then inE (el (29 + 57 * p + 2)) kk z else el (29 + 57 * r + o)) i
        by_cases y : 29 + 57 * r + o = 29 + 57 * p + 2
        · obtain rfl : r = p := by omega
          obtain rfl : o = 2 := by omega
          rw [if_pos rfl] at hi2
          rw [if_neg (by decide), if_pos rfl, if_pos rfl, if_pos rfl]
          show lO β (inE (ix (29 + 57 * r + 2)) kk (un τ 17 17) i) = inE (el (29 + 57 * r + 2)) kk z i
          unfold inE
          by_cases e : i < kk
          · rw [if_pos e, if_pos e, e4]; exact hβ _ (lv_l (e3.1 i (by omega)).1)
          · rw [if_neg e, if_neg e]
            by_cases e' : i = kk
            · rw [if_pos e', if_pos e']; exact hβn
            · rw [if_neg e', if_neg e', e4]; exact hβ _ (lv_l (e3.1 (i - 1) (by omega)).1)
        · rw [if_neg y] at hi2
          rw [if_neg y]
          rcases (show o = 1 ∨ o = 2 ∨ o = 3 by omega) with rfl | rfl | rfl
          · rw [if_pos rfl, if_neg y, e2]; exact hβ _ (lv_c (e1.1 i hi2).1 (by decide))
          · rw [if_neg (by decide), if_pos rfl, if_neg y, e4]; exact hβ _ (lv_l (e3.1 i hi2).1)
          · rw [if_neg (by decide), if_neg (by decide), if_neg y, e6]; exact hβ _ (lv_a (e5.1 i hi2).1 (by decide))
    · show (if 1 = 29 + 57 * p + 2 then sz (29 + 57 * p + 2) + 1 else sz 1) = _
      rw [if_neg (by omega), g1, un_e (hU 9 (by decide) (by decide) (by decide))]
    · show (if 27 = 29 + 57 * p + 2 then sz (29 + 57 * p + 2) + 1 else sz 27) = _
      rw [if_neg (by omega), g3, un_e (hU 44 (by decide) (by decide) (by decide))]
    · show (if 28 = 29 + 57 * p + 2 then sz (29 + 57 * p + 2) + 1 else sz 28) = _
      rw [if_neg (by omega), g5, un_e (hU 51 (by decide) (by decide) (by decide))]
    · obtain ⟨⟨e1, e2⟩, ⟨e3, e4⟩, ⟨e5, e6⟩⟩ := gp r hr
      refine ⟨?_, ?_, ?_⟩
      · show EnN _ _ (if 29 + 57 * r + 1 = 29 + 57 * p + 2 then sz (29 + 57 * p + 2) + 1 else sz (29 + 57 * r + 1)) (if 29 + 57 * r + 1 = 29 + 57 * p + 2 then inE (ix (29 + 57 * r + 1)) kk (un τ 17 17) else ix (29 + 57 * r + 1))
        rw [if_neg (by omega), if_neg (by omega), un_e (hU 9 (by decide) (by decide) (by decide))]
        exact e1.cg fun c _ => by rw [un_e (hU 0 (by decide) (by decide) (by decide))]
      · show EnL U r (if 29 + 57 * r + 2 = 29 + 57 * p + 2 then sz (29 + 57 * p + 2) + 1 else sz (29 + 57 * r + 2)) (if 29 + 57 * r + 2 = 29 + 57 * p + 2 then inE (ix (29 + 57 * r + 2)) kk (un τ 17 17) else ix (29 + 57 * r + 2))
        have hag : ∀ c, c < un τ 17 17 → (un U 0 (un U 14 c) = r ↔ un τ 0 (un τ 14 c) = r) ∧ un U 15 c = un τ 15 c := fun c hc => ⟨by rw [u014 c hc], (ko c (by omega)).2⟩
        have e3' : EnO (fun k => un τ 0 (un τ 14 k) = r) (un τ 15) (un τ 17 17) (sz (29 + 57 * r + 2)) (ix (29 + 57 * r + 2)) := e3
        have own : un U 0 (un U 14 (un τ 17 17)) = p := by rw [s14, un_e (hU 0 (by decide) (by decide) (by decide))]; exact hpc
        by_cases y : r = p
        · subst y
          rw [if_pos rfl, if_pos rfl]
          have := e3'.ins (P' := fun k => un U 0 (un U 14 k) = r) (key' := un U 15) own hag s15 hkk hge hle
          rw [← u17] at this
          exact this
        · rw [if_neg (by omega), if_neg (by omega)]
          have := e3'.skip (P' := fun k => un U 0 (un U 14 k) = r) (key' := un U 15) (fun h => y (h.symm.trans own)) hag
          rw [← u17] at this
          exact this
      · show EnG U r (if 29 + 57 * r + 3 = 29 + 57 * p + 2 then sz (29 + 57 * p + 2) + 1 else sz (29 + 57 * r + 3)) (if 29 + 57 * r + 3 = 29 + 57 * p + 2 then inE (ix (29 + 57 * r + 3)) kk (un τ 17 17) else ix (29 + 57 * r + 3))
        rw [if_neg (by omega), if_neg (by omega)]
        exact e5.cg (congrFun (un_e (hU 44 (by decide) (by decide) (by decide))) 44) (fun k hk => ⟨congrFun (un_e (hU 38 (by decide) (by decide) (by decide))) k, congrFun (un_e (hU 40 (by decide) (by decide) (by decide))) k⟩)
  have cb : ∀ c', c' < un τ 9 9 → cO β c' 0 = cO α c' 0 := fun c' h => hβ _ (lv_c h (by decide))
  have wsU : WS U G β M3 := ws.grow hw hβ hm hiU (fun c hc => .inl (by rw [un_e (hU 9 (by decide) (by decide) (by decide))] at hc; exact hc)) (fun g hg => .inl (by rw [un_e (hU 44 (by decide) (by decide) (by decide))] at hg; exact hg)) (fun k hk => by
    rw [u17] at hk
    by_cases e : k < un τ 17 17
    · exact .inl ⟨e, (ko k (by omega)).1⟩
    · obtain rfl : k = un τ 17 17 := by omega
      rw [hβn, s14, cb c hc]
      exact .inr ⟨z3.1, z3.2.1⟩) (fun k hk => .inl (by rw [un_e (hU 51 (by decide) (by decide) (by decide))] at hk; exact hk)) lsw
  obtain ⟨w1, w2, w3, w4, w5⟩ := wt
  have ci : ∀ c, c < un τ 9 9 → ∀ o, o < 10 → mI M3 (cO α c o) = mI M (cO α c o) ∧ mL M3 (cO α c o) = mL M (cO α c o) := fun c hc o ho => st _ (lv_c hc ho) (by omega)
  have ho : ∀ o, o < 57 → hO β p o = hO α p o := fun o h => hβ _ (lv_h hp h)
  have ao : ∀ x, x < un τ 9 9 → CAg x τ U := fun x hx => ⟨fun k hk => congrFun (un_e (hU k (by omega) (by omega) (by omega))) x, fun d hd => ⟨fun _ _ => congrFun (un_e (hU 7 (by decide) (by decide) (by decide))) _, congrFun (un_e (hU 8 (by decide) (by decide) (by decide))) _⟩⟩
  have r3 : ∀ x, x < un τ 9 9 → ∃ sn sk, EnN (fun k => un U 10 k = x) (un U 13 13) sn sk ∧ mI M3 (cO α x 0) 10 = nI sn ∧ ∀ j, j < sn → mI M3 (cO α x 5) j = nI (un U 11 (sk j)) ∧ mI M3 (cO α x 6) j = nI (un U 11 (sk j) + un U 12 (sk j)) := fun x hx => by
    obtain ⟨_, _, sn, sk, a1, a2, a3⟩ := w1 x hx
    rw [un_e (hU 10 (by decide) (by decide) (by decide)), un_e (hU 11 (by decide) (by decide) (by decide)), un_e (hU 12 (by decide) (by decide) (by decide)), un_e (hU 13 (by decide) (by decide) (by decide)), (ci x hx 0 (by decide)).1, (ci x hx 5 (by decide)).1, (ci x hx 6 (by decide)).1]
    exact ⟨sn, sk, a1, a2, a3⟩
  have wc3 : ∀ x, x < un τ 9 9 → WTc U β M3 x := fun x hx => WTc.al (fun o ho => hβ _ (lv_c hx ho)) (((w1 x hx).cg (fun k _ => congrFun (ci x hx 0 (by decide)).1 k) (fun o _ ho => (ci x hx o (by omega)).1)).ag hw hx (ao x hx) (fun d _ => congrFun (hU 6 (by decide) (by decide) (by decide)) _) (r3 x hx))
  have nab : α 0 ≠ bO α p 0 := ws.1.ne (lv_s (by decide)) (lv_b hp (by decide)) (by omega)
  rw [wI_cm (show bO α p 0 ≠ α 0 from fun e => nab e.symm)]
  have f : frm (fun a => LaA nl (fun i => lO β (ln i)) a ∨ a = α 0) M3 (wI M4 (α 0) 7 (nI (un τ 17 17 + 1))) := (g.mono fun a h => .inl h).wi _ _ (.inr rfl)
  have laz : ∀ k, LV τ k → (k < 1200 ∨ 1230 ≤ k) → ¬ LaA nl (fun i => lO β (ln i)) (α k) := fun k hk hn => by
    rintro ⟨i, hi, e⟩
    have h1 := (hln.1 i hi).1
    have hk2 : LV U k := by
      unfold LV at hk ⊢
      rw [u17, un_e (hU 9 (by decide) (by decide) (by decide)), un_e (hU 44 (by decide) (by decide) (by decide)), un_e (hU 51 (by decide) (by decide) (by decide))]
      omega
    rw [← hβ k hk] at e
    have := hiU _ _ hk2 (lv_l h1) e
    omega
  have n : ∀ k, LV τ k → (k < 1200 ∨ 1230 ≤ k) → k ≠ 0 → ¬ (LaA nl (fun i => lO β (ln i)) (α k) ∨ α k = α 0) := fun k hk h1 h2 q => q.elim (laz k hk h1) (fun e => h2 (ws.1 _ _ hk (lv_s (by decide)) e))
  have e0 : ∀ k, mI (wI M4 (α 0) 7 (nI (un τ 17 17 + 1))) (α 0) k = if k = 7 then nI (un τ 17 17 + 1) else mI M (α 0) k := fun k => by
    by_cases q : k = 7
    · subst q; rw [if_pos rfl]; exact wI_i
    · rw [if_neg q]; exact (wI_k q).trans ((congrFun (g.i (laz 0 (lv_s (by decide)) (by omega))) k).trans (congrFun (st 0 (lv_s (by decide)) (by omega)).1 k))
  have el : ∀ l, l < un τ 17 17 → ∀ k, k ≠ 2 → mI (wI M4 (α 0) 7 (nI (un τ 17 17 + 1))) (lO β l) k = mI M3 (lO β l) k := fun l hl k hk => by
    have e : mI (wI M4 (α 0) 7 (nI (un τ 17 17 + 1))) (lO β l) = mI M4 (lO β l) := by
      rw [show lO β l = lO α l from hβ _ (lv_l hl)]
      exact wI_a (ws.1.ne (lv_l hl) (lv_s (by decide)) (by omega))
    rw [e]
    by_cases q : ∃ i, i < nl ∧ ln i = l
    · obtain ⟨i, a, b⟩ := q
      rw [← b]; exact g1 i a k hk
    · refine congrFun (g.i ?_) k
      rintro ⟨i, a, e⟩
      have := hiU _ _ (show LV U (1200 + l) from lv_l (by omega)) (lv_l (hln.1 i a).1) e
      exact q ⟨i, a, by omega⟩
  have eln : mI (wI M4 (α 0) 7 (nI (un τ 17 17 + 1))) (lO β (un τ 17 17)) 1 = nI d := by
    have e : lO β (un τ 17 17) ≠ α 0 := by rw [hβn]; have := hα 0 (lv_s (by decide)); omega
    rw [show mI (wI M4 (α 0) 7 (nI (un τ 17 17 + 1))) (lO β (un τ 17 17)) = mI M4 (lO β (un τ 17 17)) from wI_a e]
    by_cases q : ∃ i, i < nl ∧ ln i = un τ 17 17
    · obtain ⟨i, a, b⟩ := q
      have := g1 i a 1 (by decide)
      rw [b, hβn] at this
      rw [hβn]; exact this.trans z3.2.2
    · rw [g.i (by
        rintro ⟨i, a, e⟩
        have := hiU _ _ (show LV U (1200 + un τ 17 17) from lv_l (by omega)) (lv_l (hln.1 i a).1) e
        exact q ⟨i, a, by omega⟩), hβn]
      exact z3.2.2
  generalize hM5 : wI M4 (α 0) 7 (nI (un τ 17 17 + 1)) = M5 at f e0 el eln ⊢
  have ws5 : WS U G β M5 := wsU.fr f (fun k hk => by
    rw [hβ k hk.lv]
    exact n k hk.lv (by have := hk.lt; omega) (by rcases hk with rfl | rfl | rfl | ⟨q, o, h1, h2, h3, rfl⟩ <;> omega))
  have s5 : ∀ k, LV τ k → (k < 1200 ∨ 1230 ≤ k) → k ≠ 0 → k ≠ 29 + 57 * p + 2 → mI M5 (α k) = mI M (α k) ∧ mL M5 (α k) = mL M (α k) := fun k hk h1 h2 h3 => ⟨(f.i (n k hk h1 h2)).trans (st k hk h3).1, (f.l (n k hk h1 h2)).trans (st k hk h3).2⟩
  have bp : bO α p 0 = bO β p 0 := (hβ _ (lv_b hp (by decide))).symm
  have hvp : ∀ r, r < 6 → r ≠ p → VP r τ U := fun r hr hne => ⟨hw, VPc.of fun k hk => hU k (by omega) (by omega) (by omega), ⟨by rw [u17]; omega, fun k hk => by
      rw [u17] at hk
      by_cases e : k < un τ 17 17
      · rw [u014 k e]; exact ⟨fun y => ⟨e, y⟩, fun y => y.2⟩
      · obtain rfl : k = un τ 17 17 := by omega
        rw [s14, un_e (hU 0 (by decide) (by decide) (by decide)), hpc]; exact ⟨fun y => absurd y.symm hne, fun y => absurd y.1 (by omega)⟩, fun k hk _ => ko k (by omega), congrFun (un_e (hU 18 (by decide) (by decide) (by decide))) _, congrFun (un_e (hU 19 (by decide) (by decide) (by decide))) _, congrFun (un_e (hU 20 (by decide) (by decide) (by decide))) _⟩,
    VPe.of fun k h1 _ => hU k (by omega) (by omega) (by omega), VPt.of (fun k h1 _ => hU k (by omega) (by omega) (by omega)) (fun m _ => by rw [l2]), VPg.of fun k h1 _ => hU k (by omega) (by omega) (by omega)⟩
  refine ⟨?_, ?_, nab⟩
  · rw [bp]
    refine ch_w (τ := τ) hwU hp ws5 ⟨fun x hx => ?_, fun r hr => ?_, fun q hq => ?_, ?_, ?_⟩ (fun x hx hcz => ?_) hvp (fun r hr hne hz0 => ?_)
    · rw [un_e (hU 9 (by decide) (by decide) (by decide))] at hx
      have nc : ∀ o, o < 10 → mI M5 (cO β x o) = mI M3 (cO β x o) := fun o ho => f.i (by rw [show cO β x o = cO α x o from hβ _ (lv_c hx ho)]; exact n _ (lv_c hx ho) (by omega) (by omega))
      exact (wc3 x hx).cg (fun k _ => congrFun (nc 0 (by decide)) k) (fun o _ ho => nc o (by omega))
    · exact (((w2 r hr).cg2 (fun o h1 ho => (s5 _ (lv_h hr (show o < 57 by omega)) (by omega) (by omega) (by omega)).1) (fun o h1 ho => (s5 _ (lv_h hr (show o < 57 by omega)) (by omega) (by omega) (by omega)).2)).u (hU 30 (by decide) (by decide) (by decide)) (hU 36 (by decide) (by decide) (by decide)) (hU 37 (by decide) (by decide) (by decide)) (hU 47 (by decide) (by decide) (by decide)) (hU 50 (by decide) (by decide) (by decide)) (hU 51 (by decide) (by decide) (by decide)) (l2 45) (l2 49)).al (fun o ho => hβ _ (lv_h hr (show o < 57 by omega)))
    · exact (((w3 q hq).cg (fun o ho => (s5 _ (lv_g hq ho) (by omega) (by omega) (by omega)).1) (fun o ho => (s5 _ (lv_g hq ho) (by omega) (by omega) (by omega)).2)).u (hU 31 (by decide) (by decide) (by decide)) (hU 32 (by decide) (by decide) (by decide)) (hU 33 (by decide) (by decide) (by decide)) (hU 34 (by decide) (by decide) (by decide)) (hU 35 (by decide) (by decide) (by decide)) (hU 54 (by decide) (by decide) (by decide)) (l2 52) (l2 53)).al (fun o ho => hβ _ (lv_g hq ho))
    · refine WTx.al (fun o ho => hβ o (lv_s (by omega))) ?_
      obtain ⟨b1, b2, b3, b4, b5, b6, b7⟩ := w4
      unfold WTx
      rw [e0, e0, e0, e0, e0, e0, un_e (hU 13 (by decide) (by decide) (by decide)), u17, un_e (hU 18 (by decide) (by decide) (by decide)), un_e (hU 19 (by decide) (by decide) (by decide)), un_e (hU 20 (by decide) (by decide) (by decide)), un_e (hU 46 (by decide) (by decide) (by decide))]
      exact ⟨b1, rfl, b3, b4, b5, b6, (b7.cgs (fun o ho => (s5 (4 + o) (lv_s (by omega)) (by omega) (by omega) (by omega)).1)).u (hU 22 (by decide) (by decide) (by decide)) (hU 23 (by decide) (by decide) (by decide)) (hU 24 (by decide) (by decide) (by decide)) (hU 25 (by decide) (by decide) (by decide)) (hU 26 (by decide) (by decide) (by decide)) (hU 27 (by decide) (by decide) (by decide))⟩
    · refine ⟨fun k hk => ?_, fun x hx => ?_, fun k hk => ?_⟩
      · rw [u17] at hk
        by_cases e : k < un τ 17 17
        · exact (el k e 1 (by decide)).trans (lday k (by omega))
        · obtain rfl : k = un τ 17 17 := by omega
          rw [s15]; exact eln
      · rw [un_e (hU 44 (by decide) (by decide) (by decide))] at hx
        unfold GaF
        rw [show aO β x 0 = aO α x 0 from hβ _ (lv_a hx (by decide)), show mI M5 (aO α x 0) = mI M (aO α x 0) from (s5 _ (lv_a hx (show 0 < 2 by decide)) (by omega) (by omega) (by omega)).1, un_e (hU 38 (by decide) (by decide) (by decide)), un_e (hU 39 (by decide) (by decide) (by decide)), un_e (hU 40 (by decide) (by decide) (by decide)), un_e (hU 41 (by decide) (by decide) (by decide)), un_e (hU 42 (by decide) (by decide) (by decide)), un_e (hU 43 (by decide) (by decide) (by decide))]
        exact w5.2.1 x hx
      · rw [un_e (hU 51 (by decide) (by decide) (by decide))] at hk
        rw [show yO β k = yO α k from hβ _ (lv_y hk), show mI M5 (yO α k) = mI M (yO α k) from (s5 _ (lv_y hk) (by omega) (by omega) (by omega)).1, show mL M5 (yO α k) = mL M (yO α k) from (s5 _ (lv_y hk) (by omega) (by omega) (by omega)).2, un_e (hU 47 (by decide) (by decide) (by decide)), un_e (hU 48 (by decide) (by decide) (by decide)), un_e (hU 50 (by decide) (by decide) (by decide)), l2]
        exact w5.2.2 k hk
    · rw [un_e (hU 9 (by decide) (by decide) (by decide))] at hx
      have cs : ∀ o, o < 10 → cO β x o = cO α x o := fun o ho => hβ _ (lv_c hx ho)
      have cv : ∀ o, o < 10 → mI M5 (cO α x o) = mI M (cO α x o) ∧ mL M5 (cO α x o) = mL M (cO α x o) := fun o ho => s5 _ (lv_c hx ho) (by omega) (by omega) (by omega)
      rw [cs 0 (by decide), (cv 0 (by decide)).1] at hcz
      have y := (ao x hx).cw hw hx (wb.1 x hx hcz)
      intro m hm
      rw [cs 7 (by decide), cs 8 (by decide), (cv 7 (by decide)).2, (cv 8 (by decide)).1]
      exact y m hm
    · have nb' : ∀ o, o < 42 → mI M5 (bO α r o) = mI M (bO α r o) ∧ mL M5 (bO α r o) = mL M (bO α r o) := fun o ho => s5 _ (lv_b hr ho) (by omega) (by omega) (by omega)
      refine BF.al hr hβ (BF.cg nb' (fun x hx _ => (s5 _ (lv_a hx (show 1 < 2 by decide)) (by omega) (by omega) (by omega)).2) (fun x hx _ => ⟨(s5 _ (lv_c hx (show 8 < 10 by decide)) (by omega) (by omega) (by omega)).1, (s5 _ (lv_c hx (show 7 < 10 by decide)) (by omega) (by omega) (by omega)).2, (s5 _ (lv_c hx (show 9 < 10 by decide)) (by omega) (by omega) (by omega)).2⟩) (fun k hk ho2 => ?_) (wb.2 r hr ?_))
      · have nl' : ¬ (LaA nl (fun i => lO β (ln i)) (lO α k) ∨ lO α k = α 0) := by
          rintro (⟨i, a, e⟩ | e)
          · have h1 := hln.1 i a
            rw [← show lO β k = lO α k from hβ _ (lv_l hk)] at e
            have e2 := hiU _ _ (show LV U (1200 + k) from lv_l (by omega)) (lv_l h1.1) e
            have e3 : ln i = k := by omega
            rw [e3, u014 k hk] at h1
            exact hne (ho2.symm.trans h1.2)
          · have := ws.1 _ _ (lv_l hk) (lv_s (show 0 < 476 by decide)) e
            omega
        exact (congrFun (f.i nl') 2).trans (congrFun (st _ (lv_l hk) (by omega)).1 2)
      · rw [← (nb' 0 (by decide)).1, ← show bO β r 0 = bO α r 0 from hβ _ (lv_b hr (by decide))]
        exact hz0
  · have k5 : KP (fun x => (LX α (fun k => k = 29 + 57 * p + 2) x ∨ x = bO α p 0) ∨ ((∃ k, LV τ k ∧ x = α k) ∨ mK M x = 0)) (fun x => LX α (fun k => k = 29 + 57 * p + 2) x ∨ (mK M x = 26 ∨ mK M x = 0)) M (wI M5 (bO α p 0) 0 (nI 1)) := by
      refine ((k04.mono (fun x _ h => .inl (.inl h)) (fun x _ h => h)).tr (KP.fr (f.mono fun a h => ?_))).tr (KP.fr ((frm.rf _ M5).wi 0 (nI 1) (.inl (.inr rfl))))
      rcases h with ⟨i, a', e⟩ | e
      · have h1 := (hln.1 i a').1
        rw [u17] at h1
        by_cases q : ln i < un τ 17 17
        · exact .inr (.inl ⟨_, lv_l q, e.trans (hβ _ (lv_l q))⟩)
        · have : ln i = un τ 17 17 := by omega
          refine .inr (.inr (hz a ?_))
          rw [e]
          show z ≤ lO β (ln i)
          rw [this, hβn]; exact Nat.le_refl _
      · exact .inr (.inl ⟨0, lv_s (by decide), e⟩)
    refine (k5.mono (A' := fun x => ∃ k, LV τ k ∧ x = α k) (B' := fun x => LX α (fun k => k = 29 + 57 * p + 2) x ∨ mK M x = 26) (fun x hx h => ?_) (fun x hx h => h.elim .inl (fun h => h.elim .inr (fun h => absurd h hx)))).cf (fun a h => h) (fun a h => h.elim (fun h => .inl h.lv) .inr)
    rcases h with (h | h) | (h | h)
    · exact h.lv
    · exact ⟨_, lv_b hp (show 0 < 42 by decide), h⟩
    · exact h
    · exact absurd h hx


