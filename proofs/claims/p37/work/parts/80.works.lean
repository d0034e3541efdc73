/-! THE CLASS: a person's contracts -/
theorem LI.get {G : gW} {M : Mem} {ci a s : Nat} {e : Nat → Nat} (h : LI G M ci a s e) {i : Nat} (hi : i < s) : ∃ d, mR M a 1 = some d ∧ mK M d = 26 ∧ s ≤ mN M d ∧ mN M d < 2 ^ 31 ∧ mR M d i = some (e i) := by
  obtain ⟨h1, h2, h3, d, h4, h5⟩ := h
  rcases h5 with h5 | ⟨p1, p2, p3, p4, p5⟩
  · omega
  · exact ⟨d, h4, p1, p2, by omega, p5 i hi⟩
theorem LI.fr {G : gW} {A : Nat → Prop} {M M' : Mem} {ci a s : Nat} {e : Nat → Nat} (h : LI G M ci a s e) (g : frm A M M') (ha : ¬ A a) : LI G M' ci a s e := by
  obtain ⟨h1, h2, h3, h4⟩ := h
  unfold LI
  rw [g.1, g.2.1, g.2.2.1, g.i ha]
  exact ⟨h1, h2, h3, h4⟩
/-- cn lists the numbers below n of which P holds, rising -/
def EnN (P : Nat → Prop) (n nc : Nat) (cn : Nat → Nat) : Prop := (∀ i, i < nc → cn i < n ∧ P (cn i)) ∧ (∀ i j, i < j → j < nc → cn i < cn j) ∧ ∀ c, c < n → P c → ∃ i, i < nc ∧ cn i = c
theorem EnN.no {P : Nat → Prop} {n nc : Nat} {cn : Nat → Nat} (h : EnN P (n + 1) nc cn) (hn : ¬ P n) : EnN P n nc cn :=
  ⟨fun i hi => ⟨by have := (h.1 i hi).1; have : cn i ≠ n := fun e => hn (e ▸ (h.1 i hi).2); omega, (h.1 i hi).2⟩, h.2.1, fun c hc hp => h.2.2 c (by omega) hp⟩
theorem EnN.yes {P : Nat → Prop} {n nc : Nat} {cn : Nat → Nat} (h : EnN P (n + 1) nc cn) (hn : P n) : ∃ k, nc = k + 1 ∧ cn k = n ∧ EnN P n k cn := by
  obtain ⟨i, hi, e⟩ := h.2.2 n (by omega) hn
  have hl : ∀ j, j < nc → j ≤ i := fun j hj => by
    apply Classical.byContradiction
    intro z
    have := h.2.1 i j (by omega) hj
    have := (h.1 j hj).1
    omega
  have hi2 : nc = i + 1 := by
    have := hl (nc - 1) (by omega)
    omega
  refine ⟨i, hi2, e, fun j hj => ⟨by have := h.2.1 j i hj hi; omega, (h.1 j (by omega)).2⟩, fun a b h1 h2 => h.2.1 a b h1 (by omega), fun c hc hp => ?_⟩
  obtain ⟨j, hj, e2⟩ := h.2.2 c (by omega) hp
  exact ⟨j, by have : j ≠ i := fun z => by rw [z, e] at e2; omega
               have := hl j hj; omega, e2⟩
theorem en_sum {P : Nat → Prop} [DecidablePred P] {F : Nat → Nat} {cn : Nat → Nat} : ∀ {n nc : Nat}, EnN P n nc cn → sumN (fun c => if P c then F c else 0) 0 n = sumN (fun i => F (cn i)) 0 nc
  | 0, nc, h => by
    have : nc = 0 := by
      apply Classical.byContradiction
      intro z
      have := (h.1 0 (by omega)).1
      omega
    subst this
    rfl
  | n + 1, nc, h => by
    show sumN (fun c => if P c then F c else 0) 0 n + (if P (0 + n) then F (0 + n) else 0) = _
    rw [Nat.zero_add]
    by_cases hn : P n
    · obtain ⟨k, e1, e2, h2⟩ := h.yes hn
      subst e1
      rw [if_pos hn, en_sum h2]
      show _ = sumN (fun i => F (cn i)) 0 k + F (cn (0 + k))
      rw [Nat.zero_add, e2]
    · rw [if_neg hn, Nat.add_zero, en_sum (h.no hn)]
theorem en_any {P : Nat → Prop} {f g : Nat → Bool} {cn : Nat → Nat} {n nc : Nat} (h : EnN P n nc cn) (hf : ∀ c, c < n → (f c = true ↔ P c ∧ g c = true)) : anyN f n = anyN (fun i => g (cn i)) nc := by
  have e : anyN f n = true ↔ anyN (fun i => g (cn i)) nc = true := by
    rw [anyN_iff, anyN_iff]
    constructor
    · rintro ⟨c, h1, h2⟩
      obtain ⟨h3, h4⟩ := (hf c h1).mp h2
      obtain ⟨i, h5, h6⟩ := h.2.2 c h1 h3
      exact ⟨i, h5, by show g (cn i) = true; rw [h6]; exact h4⟩
    · rintro ⟨i, h1, h2⟩
      exact ⟨cn i, (h.1 i h1).1, (hf _ (h.1 i h1).1).mpr ⟨(h.1 i h1).2, h2⟩⟩
  cases h1 : anyN f n <;> cases h2 : anyN (fun i => g (cn i)) nc <;> simp_all
/-- the contracts of a person at h -/
def PcL (τ : Mu) (p : Nat) (G : gW) (M : Mem) (h : Nat → Nat) (nc : Nat) (cn : Nat → Nat) (fc : Nat → Nat → Nat) : Prop := LI G M 5 (h 1) nc (fun i => fc i 0) ∧ EnN (fun c => un τ 0 c = p) (un τ 9 9) nc cn ∧ ∀ i, i < nc → Blk tbCo (mK M) (mN M) (mR M) (fc i) ∧ CoF τ (cn i) (mI M) (fc i)
theorem EnN.le {P : Nat → Prop} {n nc : Nat} {cn : Nat → Nat} (h : EnN P n nc cn) : nc ≤ n := by
  have g : ∀ i, i < nc → i ≤ cn i := by
    intro i
    induction i with
    | zero => intro _; omega
    | succ i ih => intro hi; have := ih (by omega); have := h.2.1 i (i + 1) (by omega) hi; omega
  apply Classical.byContradiction
  intro z
  have := g (nc - 1) (by omega)
  have := (h.1 (nc - 1) (by omega)).1
  omega
theorem works_en {τ : Mu} {p d nc : Nat} {cn : Nat → Nat} (h : EnN (fun c => un τ 0 c = p) (un τ 9 9) nc cn) : anyN (fun i => isOfN τ (cn i) d) nc = worksB τ p d := by
  unfold worksB
  refine (en_any (f := workB τ p d) (g := fun c => isOfN τ c d) h (fun c hc => ?_)).symm
  show workB τ p d c = true ↔ un τ 0 c = p ∧ isOfN τ c d = true
  unfold workB isOfN
  rw [decide_eq_true_iff, decide_eq_true_iff]
set_option maxHeartbeats 1000000 in
set_option maxRecDepth 100000 in
theorem c_X8_worksOn (l : Launch) (hfl : l.flags = flags0) (G : gW) (M : Mem) (h : Nat → Nat) (hb : Blk tbPe (mK M) (mN M) (mR M) h) (τ : Mu) (hw : WF τ) (p : Nat) (nc : Nat) (cn : Nat → Nat) (fc : Nat → Nat → Nat) (hpc : PcL τ p G M h nc cn fc) (x : Int32) : CT l yX8_worksOn cX8_worksOn 3 (some .boolean) 3 0 0 64 G M [.ref (h 0), .int x] (fun v M' => v = some (.int (bI (anyN (fun i => cvB τ (cn i) x) nc))) ∧ M = M') := by
  refine CT.of hfl rfl (Nat.le_of_ble_eq_true rfl) ?_
  intro pp ee ss mm ar bw mt cd C hgX hr hini
  have h9 := hw.nc.2
  have hncl := hpc.2.1.le
  refine V.eLo (lo' := [(0, .ref (h 0)), (1, .int x)]) rfl ?_
  refine r_iconst C (v := nI 0) dX8_worksOn_0 (by decide) ?_
  refine r_istore_n C (lo' := [(2, .int (nI 0)), (0, .ref (h 0)), (1, .int x)]) dX8_worksOn_1 rfl (by decide) rfl ?_
  have lp2 : ∀ (k2 : Nat) (i : Nat) (hi : i ≤ nc) (hno : anyN (fun i => cvB τ (cn i) x) i = false), nc + 1 - i < k2 → V pp l ee ({ frames := 3, cells := 0, slots := 0, locals := 64 } : Room) ss mm ar bw mt cd G (MQ bw (Ke G (fun v M' => v = some (.int (bI (anyN (fun i => cvB τ (cn i) x) nc))) ∧ M = M')) ar ss 0 0 (gA G)) 3 M 0 0 2 [(0, .ref (h 0)), (1, .int x), (2, .int (nI i))] [] := by
    intro k2
    induction k2 with
    | zero => intro i hi hno hz2; exact absurd hz2 (Nat.not_lt_zero _)
    | succ k2 ih2 =>
      intro i hi hno hz2
      refine r_iload_n C 2 dX8_worksOn_2 rfl rfl ?_
      refine r_aload_n C 0 dX8_worksOn_3 rfl rfl ?_
      refine r_getR C (b := (h 1)) fl_X8_12 rfl (hb.k 0 11 rfl) (hb.r 0 1 1 rfl) dX8_worksOn_4 ?_
      refine r_callV C hgX (ci := 2) ml_X8_56 im_Jx4a65c_size_8abf5 se_Jx4a65c_size_8abf5 rfl rfl (hb.k 1 3 rfl) (c_Jx4a65c_size_8abf5 l hfl G M (h 1) nc (hpc.1).1 (hpc.1).2.1) rfl (Nat.le_of_ble_eq_true rfl) ⟨Nat.le_of_ble_eq_true rfl, Nat.le_of_ble_eq_true rfl⟩ ⟨Nat.le_of_ble_eq_true rfl, Nat.le_of_ble_eq_true rfl⟩ dX8_worksOn_7 rfl ?_
      rintro _ _ ⟨rfl, rfl⟩
      refine V.eSt (st' := [.int (nI nc), .int (nI i)]) rfl ?_
      refine r_icmp_geN C (t := 39) (by omega) (by omega) dX8_worksOn_10 (by decide) (fun c10 => ?_) (fun c10 => ?_)
      · skip
        have ei : i = nc := by omega
        subst ei
        refine r_iconst C (v := nI 0) dX8_worksOn_39 (by decide) ?_
        exact r_zret C hr (by decide) (⟨by rw [hno]; rfl, rfl⟩) (by first | exact Nat.zero_le _ | decide) (by first | exact Nat.zero_le _ | decide) dX8_worksOn_40
      · skip
        obtain ⟨hbi, hfi⟩ := hpc.2.2 i (by omega)
        refine r_aload_n C 0 dX8_worksOn_13 rfl rfl ?_
        refine r_getR C (b := (h 1)) fl_X8_12 rfl (hb.k 0 11 rfl) (hb.r 0 1 1 rfl) dX8_worksOn_14 ?_
        refine r_iload_n C 2 dX8_worksOn_17 rfl rfl ?_
        obtain ⟨d_, hd_, hkd_, hsn_, hn_, hri_⟩ := (hpc.1).get (i := i) (by omega)
        refine r_callV C hgX (ci := 2) ml_X8_60 im_Jx4a65c_get_915e3 se_Jx4a65c_get_915e3 rfl rfl (hb.k 1 3 rfl) (c_Jx4a65c_get_915e3 l hfl G M (h 1) d_ _ i (fc i 0) nc (hpc.1).1 hd_ (hpc.1).2.1 hkd_ rfl hn_ hsn_ (by omega) hri_) rfl (Nat.le_of_ble_eq_true rfl) ⟨Nat.le_of_ble_eq_true rfl, Nat.le_of_ble_eq_true rfl⟩ ⟨Nat.le_of_ble_eq_true rfl, Nat.le_of_ble_eq_true rfl⟩ dX8_worksOn_18 rfl ?_
        rintro _ _ ⟨rfl, rfl⟩
        refine V.eSt (st' := [.ref (fc i 0)]) rfl ?_
        refine r_cast C (ci := 5) rfl cl_X8_64 ((hbi.k 0 6 rfl)) dX8_worksOn_21 ?_
        refine r_iload_n C 1 dX8_worksOn_24 rfl rfl ?_
        refine r_callV C hgX (ci := 5) ml_X8_66 im_X3_covers se_X3_covers rfl rfl (hbi.k 0 6 rfl) (c_X3_covers l hfl G M (fc i) hbi τ hw (cn i) (hpc.2.1.1 i (by omega)).1 hfi x) rfl (Nat.le_of_ble_eq_true rfl) ⟨Nat.le_of_ble_eq_true rfl, Nat.le_of_ble_eq_true rfl⟩ ⟨Nat.le_of_ble_eq_true rfl, Nat.le_of_ble_eq_true rfl⟩ dX8_worksOn_25 rfl ?_
        rintro _ _ ⟨rfl, rfl⟩
        refine V.eSt (st' := [.int (bI (cvB τ (cn i) x))]) rfl ?_
        refine r_if_eqB C (t := 33) dX8_worksOn_28 (by decide) (fun c28 => ?_) (fun c28 => ?_)
        · skip
          refine r_iinc C (v := nI (i + 1)) (lo' := [(2, .int (nI (i + 1))), (0, .ref (h 0)), (1, .int x)]) 2 dX8_worksOn_33 rfl (nI_addI i 1) (by decide) rfl ?_
          refine r_goto C (t := 2) dX8_worksOn_36 (by decide) ?_
          refine V.sub [1, 2, 0] (lo' := [(0, .ref (h 0)), (1, .int x), (2, .int (nI (i + 1)))]) rfl ?_
          exact ih2 (i + 1) (by omega) (by show (anyN (fun i => cvB τ (cn i) x) i || cvB τ (cn i) x) = false; rw [hno, c28]; rfl) (by omega)
        · skip
          refine r_iconst C (v := nI 1) dX8_worksOn_31 (by decide) ?_
          exact r_zret C hr (by decide) (⟨by rw [any_t (n := nc) (k := i) (by omega) c28]; rfl, rfl⟩) (by first | exact Nat.zero_le _ | decide) (by first | exact Nat.zero_le _ | decide) dX8_worksOn_32
  refine V.sub [1, 2, 0] (lo' := [(0, .ref (h 0)), (1, .int x), (2, .int (nI 0))]) rfl ?_
  exact lp2 _ 0 (Nat.zero_le _) rfl (Nat.lt_succ_self _)

