/-! VIEW: a person's slips agree where what they read agrees -/
def VW (r : Nat) (τ U : Mu) : Prop := (∀ k, k < 30 → U.1 k = τ.1 k) ∧ (∀ k, 31 ≤ k → k < 36 → U.1 k = τ.1 k) ∧ (∀ k, 38 ≤ k → k < 45 → U.1 k = τ.1 k) ∧ (∀ m q, m < 24 → q < 3 → U.1 30 (72 * r + 3 * m + q) = τ.1 30 (72 * r + 3 * m + q)) ∧ (∀ m, m < 24 → U.1 36 (24 * r + m) = τ.1 36 (24 * r + m)) ∧ (∀ m, m < 24 → U.1 37 (24 * r + m) = τ.1 37 (24 * r + m)) ∧ ∀ m, m < 24 → U.2 45 (24 * r + m) = τ.2 45 (24 * r + m)
theorem lst_cg {f g : Nat → Bool} : ∀ {n : Nat}, (∀ k, k < n → f k = g k) → lstN f n = lstN g n
  | 0, _ => rfl
  | n + 1, h => by
    show (if f n = true then some n else lstN f n) = (if g n = true then some n else lstN g n)
    rw [h n (by omega), lst_cg (fun k hk => h k (by omega))]
section VWs
variable {r : Nat} {τ U : Mu}
theorem VW.l0 (v : VW r τ U) (a m : Nat) : lastO U 0 a m = lastO τ 0 a m := lst_cg fun k _ => by
  show decide (0 ≤ U.1 31 (a + k)) = decide (0 ≤ τ.1 31 (a + k))
  rw [v.2.1 31 (by decide) (by decide)]
theorem VW.l3 (v : VW r τ U) (a m : Nat) : lastO U 3 a m = lastO τ 3 a m := lst_cg fun k _ => by
  show decide (un U 33 (a + k) ≠ 0) = decide (un τ 33 (a + k) ≠ 0)
  rw [un_e (v.2.1 33 (by decide) (by decide))]
theorem VW.ce (v : VW r τ U) (q m : Nat) : ceilN U q m = ceilN τ q m := by
  unfold ceilN
  rw [v.l0, un_e (v.2.1 32 (by decide) (by decide))]
theorem VW.cr (v : VW r τ U) (q m : Nat) : crN U q m = crN τ q m := by
  unfold crN
  rw [v.l0, un_e (v.2.1 31 (by decide) (by decide))]
theorem VW.st (v : VW r τ U) {m : Nat} (hm : m < 24) : stN U r m = stN τ r m := by
  unfold stN
  rw [show lastO U 1 (24 * r) m = lastO τ 1 (24 * r) m from lst_cg fun k hk => by
    show decide (0 ≤ U.1 36 (24 * r + k)) = decide (0 ≤ τ.1 36 (24 * r + k))
    rw [v.2.2.2.2.1 k (by omega)]]
  cases e : lastO τ 1 (24 * r) m with
  | none => rfl
  | some k => exact un_cg (v.2.2.2.2.1 k (by have := (lst_lt e).1; omega))
theorem VW.pt (v : VW r τ U) {m : Nat} (hm : m < 24) : ptN U r m = ptN τ r m := by
  unfold ptN
  rw [show lastO U 2 (24 * r) m = lastO τ 2 (24 * r) m from lst_cg fun k hk => by
    show decide (0 ≤ U.1 37 (24 * r + k)) = decide (0 ≤ τ.1 37 (24 * r + k))
    rw [v.2.2.2.2.2.1 k (by omega)]]
  cases e : lastO τ 2 (24 * r) m with
  | none => rfl
  | some k => exact un_cg (v.2.2.2.2.2.1 k (by have := (lst_lt e).1; omega))
theorem VW.gr (v : VW r τ U) {m q : Nat} (hm : m < 24) (hq : q < 3) : grL U r m q = grL τ r m q := u_gr v.1 (v.2.2.2.1 m q hm hq)
theorem VW.al (v : VW r τ U) {m : Nat} (hm : m < 24) : allL U r m = allL τ r m := by
  unfold allL
  rw [v.gr hm (by decide), v.gr hm (by decide), v.gr hm (by decide)]
theorem VW.pn (v : VW r τ U) {m : Nat} (hm : m < 24) : pnL U r m = pnL τ r m := by
  unfold pnL
  rw [v.al hm, v.pt hm]
theorem VW.mt (v : VW r τ U) {m : Nat} (hm : m < 24) : mtL U r m = mtL τ r m := by
  unfold mtL
  rw [v.al hm, v.pt hm]
theorem VW.gy (v : VW r τ U) {q y : Nat} (hq : q < 3) {j : Nat} (hj : y * 12 + j ≤ 24) : gY U r q y j = gY τ r q y j := sumL_cg fun i hi => v.gr (by omega) hq
theorem VW.ys (v : VW r τ U) {i : Nat} {x : Int64} : ∀ b, yrS U i x b = yrS τ i x b
  | 0 => rfl
  | b + 1 => by
    have e : yrLow U i b = yrLow τ i b := by
      cases b with
      | zero => rfl
      | succ b => exact congrFun (un_e (v.2.1 34 (by decide) (by decide))) _
    show yrS U i x b + yrT U i b x = yrS τ i x b + yrT τ i b x
    unfold yrT yrP
    rw [v.ys b, e, un_e (v.2.1 34 (by decide) (by decide)), un_e (v.2.1 35 (by decide) (by decide))]
theorem VW.ye (v : VW r τ U) (a m : Nat) (x : Int64) : yearL U a m x = yearL τ a m x := by
  unfold yearL
  rw [v.l3]
  cases lastO τ 3 a m with
  | none => rfl
  | some k =>
    show yrS U (a + k) x (un U 33 (a + k)) = yrS τ (a + k) x (un τ 33 (a + k))
    rw [v.ys, un_e (v.2.1 33 (by decide) (by decide))]
theorem VW.cm (v : VW r τ U) (q m : Nat) (a b : Int64) : ctM U q m a b = ctM τ q m a b := by
  unfold ctM
  rw [v.ce]
theorem VW.cy (v : VW r τ U) {q y : Nat} (hq : q < 3) : ∀ j, y * 12 + j ≤ 24 → ctY U r q y j = ctY τ r q y j
  | 0, _ => rfl
  | j + 1, hj => by
    show ctY U r q y j + ctM U q (y * 12 + j) (gY U r q y j + grL U r (y * 12 + j) q) (ctY U r q y j) = ctY τ r q y j + ctM τ q (y * 12 + j) (gY τ r q y j + grL τ r (y * 12 + j) q) (ctY τ r q y j)
    rw [v.cy hq j (by omega), v.cm, v.gy hq (by omega), v.gr (by omega) hq]
theorem VW.cl (v : VW r τ U) {m q : Nat} (hm : m < 24) (hq : q < 3) : ctL U r m q = ctL τ r m q := by
  unfold ctL
  rw [v.cm, v.gy hq (by omega), v.gr hm hq, v.cy hq _ (by omega)]
theorem VW.co (v : VW r τ U) {m q : Nat} (hm : m < 24) (hq : q < 3) : coL U r m q = coL τ r m q := by
  unfold coL
  rw [v.cl hm hq, v.cr]
theorem VW.tx (v : VW r τ U) {m q : Nat} (hm : m < 24) (hq : q < 3) : txL U r m q = txL τ r m q := by
  unfold txL
  rw [v.gr hm hq, v.co hm hq, u_ho v.1, v.pn hm]
theorem VW.ty (v : VW r τ U) {q y : Nat} (hq : q < 3) {j : Nat} (hj : y * 12 + j ≤ 24) : txY U r q y j = txY τ r q y j := sumL_cg fun i hi => v.tx (by omega) hq
theorem VW.du (v : VW r τ U) {m q : Nat} (hm : m < 24) (hq : q < 3) : duL U r m q = duL τ r m q := by
  unfold duL dueM
  rw [v.ye, v.st hm, v.ty hq (by omega), v.tx hm hq]
theorem VW.ta (v : VW r τ U) {m q : Nat} (hm : m < 24) (hq : q < 3) : taL U r m q = taL τ r m q := by
  unfold taL
  rw [v.du hm hq, v.du (show m - 1 < 24 by omega) hq]
theorem VW.nk (v : VW r τ U) {m : Nat} (hm : m < 24) : ∀ q, q ≤ 3 → ntK U r m q = ntK τ r m q
  | 0, _ => by
    show allL U r m - pnL U r m = allL τ r m - pnL τ r m
    rw [v.al hm, v.pn hm]
  | q + 1, hq => by
    show ntK U r m q - (coL U r m q + taL U r m q) = ntK τ r m q - (coL τ r m q + taL τ r m q)
    rw [v.nk hm q (by omega), v.co hm (by omega), v.ta hm (by omega)]
theorem VW.nt (v : VW r τ U) {m : Nat} (hm : m < 24) : ntL U r m = ntL τ r m := v.nk hm 3 (by decide)
theorem VW.tg (v : VW r τ U) (nt a l : Int64) (g : Nat) : tkG U nt a l g = tkG τ nt a l g := by
  unfold tkG
  rw [un_e (v.2.2.1 41 (by decide) (by decide)), un_e (v.2.2.1 42 (by decide) (by decide)), un_e (v.2.2.1 43 (by decide) (by decide))]
theorem VW.lk (v : VW r τ U) {p m : Nat} {nt : Int64} {had : Nat → Int64} {k : Nat} {l0 : Int64} : ∀ g, lfK U p m nt had k l0 g = lfK τ p m nt had k l0 g
  | 0 => rfl
  | g + 1 => by
    unfold lfK
    rw [v.lk g, v.tg, un_e (v.2.2.1 38 (by decide) (by decide)), un_e (v.2.2.1 39 (by decide) (by decide)), un_e (v.2.2.1 40 (by decide) (by decide))]
theorem VW.lr (v : VW r τ U) {p m : Nat} {nt : Int64} {had : Nat → Int64} : ∀ k, lfR U p m nt had k = lfR τ p m nt had k
  | 0 => rfl
  | k + 1 => by
    show lfK U p m nt had k (lfR U p m nt had k) (un U 44 44) = lfK τ p m nt had k (lfR τ p m nt had k) (un τ 44 44)
    rw [v.lr k, v.lk, un_e (v.2.2.1 44 (by decide) (by decide))]
theorem VW.hd (v : VW r τ U) : ∀ m, m ≤ 24 → hadL U r m = hadL τ r m
  | 0, _ => rfl
  | m + 1, hm => by
    funext g
    show goneF U r m (ntL U r m) (hadL U r m) g = goneF τ r m (ntL τ r m) (hadL τ r m) g
    unfold goneF
    rw [v.nt (by omega), v.hd m (by omega), v.tg, v.lk, v.lr, un_e (v.2.2.1 39 (by decide) (by decide)), un_e (v.2.2.1 40 (by decide) (by decide))]
theorem VW.lv (v : VW r τ U) {m : Nat} (hm : m < 24) : lvL U r m = lvL τ r m := by
  unfold lvL
  rw [v.nt hm, v.hd m (by omega), v.lr]
theorem VW.ow (v : VW r τ U) : ∀ m, m ≤ 24 → owL U r m = owL τ r m
  | 0, _ => rfl
  | m + 1, hm => by
    show (owL U r m + U.2 45 (24 * r + m)) - bkV (lvL U r m) (owL U r m + U.2 45 (24 * r + m)) = (owL τ r m + τ.2 45 (24 * r + m)) - bkV (lvL τ r m) (owL τ r m + τ.2 45 (24 * r + m))
    rw [v.ow m (by omega), v.lv (by omega), v.2.2.2.2.2.2 m (by omega)]
theorem VW.py (v : VW r τ U) {m : Nat} (hm : m < 24) : pyL U r m = pyL τ r m := by
  unfold pyL bkL
  rw [v.lv hm, v.ow m (by omega), v.2.2.2.2.2.2 m hm]
/-- a fresh book stays fresh where nothing that it reads has changed -/
theorem BF.vw {α : Nat → Nat} {M : Mem} (v : VW r τ U) (g : BF τ r α M) : BF U r α M := by
  obtain ⟨g1, g2, g3, g4⟩ := g
  refine ⟨fun m hm => ?_, fun x hx q k hk => ?_, fun c hc q => ?_, fun k hk q => ?_⟩
  · obtain ⟨⟨a1, a2, a3, a4⟩, b2, b3, b4, b5⟩ := g1 m hm
    refine ⟨⟨fun q hq => ?_, ?_, ?_, ?_⟩, ?_, fun e he => ?_, ?_, ?_⟩
    · rw [v.gr hm hq, v.co hm hq, v.ta hm hq, v.gy hq (by omega), v.cy hq _ (by omega), v.ty hq (by omega), v.tx hm hq, v.du hm hq]
      exact a1 q hq
    · rw [v.pn hm]; exact a2
    · rw [v.mt hm]; exact a3
    · rw [v.nt hm]; exact a4
    · rw [u_ho v.1]; exact b2
    · rw [u_el v.1]; exact b3 e he
    · rw [v.nt hm, v.lv hm]; exact b4
    · rw [v.py hm]; exact b5
  · rw [un_e (v.2.2.1 44 (by decide) (by decide))] at hx
    rw [un_e (v.2.2.1 38 (by decide) (by decide))] at q
    rw [v.hd (k + 1) (by omega)]
    exact g2 x hx q k hk
  · rw [un_e (v.1 9 (by decide))] at hc
    rw [un_e (v.1 0 (by decide))] at q
    obtain ⟨d1, d2⟩ := g3 c hc q
    refine ⟨d1.u (fun k hk => v.1 k (by omega)), fun x hx => ?_⟩
    have el : leaveP U (ltN U) c x = leaveP τ (ltN τ) c x := by
      funext k
      unfold leaveP
      rw [u_lt v.1, u_pay v.1, un_e (v.1 4 (by decide)), un_e (v.1 5 (by decide)), un_e (v.1 14 (by decide)), un_e (v.1 15 (by decide))]
    rw [el, un_e (v.1 17 (by decide))]
    exact d2 x hx
  · rw [un_e (v.1 17 (by decide))] at hk
    rw [un_e (v.1 0 (by decide)), un_e (v.1 14 (by decide))] at q
    rw [u_lt v.1]
    exact g4 k hk q
end VWs
