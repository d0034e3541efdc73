/-! THE CLASS: public methods -/
def WD (τ : Mu) (G : gW) (α : Nat → Nat) (M : Mem) : Prop := WS τ G α M ∧ WT τ α M ∧ WB τ α M
/-- what isn't the class's stays -/
def CF (τ : Mu) (α : Nat → Nat) (M M' : Mem) : Prop := ∀ a, mK M a ≠ 0 → mK M a ≠ 26 → (∀ k, LV τ k → a ≠ α k) → mK M' a = mK M a ∧ mN M' a = mN M a ∧ mI M' a = mI M a ∧ mL M' a = mL M a ∧ mR M' a = mR M a
theorem CF.rf {τ : Mu} {α : Nat → Nat} {M : Mem} : CF τ α M M := fun _ _ _ _ => ⟨rfl, rfl, rfl, rfl, rfl⟩
theorem CF.bx {τ : Mu} {α : Nat → Nat} {p : Nat} {M M' : Mem} (hp : p < 6) (h : BX τ α p M M') : CF τ α M M' := by
  intro a _ _ h3
  have n : ¬ BoA τ α p a := fun ⟨k, hk, e⟩ => h3 k (hk.lv hp) e
  exact ⟨congrFun h.1.1 a, congrFun h.1.2.1 a, h.1.i n, h.1.l n, congrFun h.1.2.2.1 a⟩
/-- what isn't the class's doesn't become its -/
def XO (τ : Mu) (α : Nat → Nat) (M : Mem) (U : Mu) (β : Nat → Nat) : Prop := ∀ a, mK M a ≠ 0 → (∀ k, LV τ k → a ≠ α k) → ∀ k, LV U k → a ≠ β k
theorem LV.u {τ U : Mu} (e9 : U.1 9 = τ.1 9) (e17 : U.1 17 = τ.1 17) (e44 : U.1 44 = τ.1 44) (e51 : U.1 51 = τ.1 51) {k : Nat} (h : LV U k) : LV τ k := by
  unfold LV un at h ⊢
  rw [e9, e17, e44, e51] at h
  exact h
theorem LV.c {τ U : Mu} (e9 : un U 9 9 = un τ 9 9 + 1) (e17 : U.1 17 = τ.1 17) (e44 : U.1 44 = τ.1 44) (e51 : U.1 51 = τ.1 51) {k : Nat} (h : LV U k) : LV τ k ∨ (1000 + 10 * un τ 9 9 ≤ k ∧ k < 1000 + 10 * un τ 9 9 + 10) := by
  unfold LV at h ⊢
  rw [e9, show un U 17 17 = un τ 17 17 by unfold un; rw [e17], show un U 44 44 = un τ 44 44 by unfold un; rw [e44], show un U 51 51 = un τ 51 51 by unfold un; rw [e51]] at h
  omega
theorem LV.g {τ U : Mu} (e44 : un U 44 44 = un τ 44 44 + 1) (e9 : U.1 9 = τ.1 9) (e17 : U.1 17 = τ.1 17) (e51 : U.1 51 = τ.1 51) {k : Nat} (h : LV U k) : LV τ k ∨ (1100 + 2 * un τ 44 44 ≤ k ∧ k < 1100 + 2 * un τ 44 44 + 2) := by
  unfold LV at h ⊢
  rw [e44, show un U 17 17 = un τ 17 17 by unfold un; rw [e17], show un U 9 9 = un τ 9 9 by unfold un; rw [e9], show un U 51 51 = un τ 51 51 by unfold un; rw [e51]] at h
  omega
theorem LV.l {τ U : Mu} (e17 : un U 17 17 = un τ 17 17 + 1) (e9 : U.1 9 = τ.1 9) (e44 : U.1 44 = τ.1 44) (e51 : U.1 51 = τ.1 51) {k : Nat} (h : LV U k) : LV τ k ∨ (1200 + un τ 17 17 ≤ k ∧ k < 1200 + un τ 17 17 + 1) := by
  unfold LV at h ⊢
  rw [e17, show un U 44 44 = un τ 44 44 by unfold un; rw [e44], show un U 9 9 = un τ 9 9 by unfold un; rw [e9], show un U 51 51 = un τ 51 51 by unfold un; rw [e51]] at h
  omega
/-- a public method of code 0: its answer, the new world -/
def PC (τ : Mu) (G : gW) (α : Nat → Nat) (M : Mem) (C : Nat) (U : Mu) (R : Option Value) (v : Option Value) (M' : Mem) : Prop := C = 0 ∧ v = R ∧ ∃ β, WD U G β M' ∧ β 0 = α 0 ∧ CF τ α M M' ∧ XO τ α M U β
/-- one of another code throws -/
def XP (M : Mem) (C : Nat) (L : List String) (E : String) (M' : Mem) : Prop := C ≠ 0 ∧ E = L.getD (C - 1) "" ∧ M' = mCl M
theorem x_1 {M M' : Mem} {a : Bool} {e E : String} (h : a = false ∧ E = e ∧ M' = mCl M) : XP M (cd1 a) [e] E M' := by
  obtain ⟨rfl, rfl, rfl⟩ := h; exact ⟨by decide, rfl, rfl⟩
theorem x_2a {M M' : Mem} {a b : Bool} {e f E : String} (h : a = false ∧ E = e ∧ M' = mCl M) : XP M (cd2 a b) [e, f] E M' := by
  obtain ⟨rfl, rfl, rfl⟩ := h; exact ⟨by simp [cd2], rfl, rfl⟩
theorem x_2b {M M' : Mem} {a b : Bool} {e f E : String} (ha : a = true) (h : b = false ∧ E = f ∧ M' = mCl M) : XP M (cd2 a b) [e, f] E M' := by
  subst ha; obtain ⟨rfl, rfl, rfl⟩ := h; exact ⟨by simp [cd2], rfl, rfl⟩
theorem x_3a {M M' : Mem} {a b c : Bool} {e f g E : String} (h : a = false ∧ E = e ∧ M' = mCl M) : XP M (cd3 a b c) [e, f, g] E M' := by
  obtain ⟨rfl, rfl, rfl⟩ := h; exact ⟨by simp [cd3], rfl, rfl⟩
theorem x_3b {M M' : Mem} {a b c : Bool} {e f g E : String} (ha : a = true) (h : b = false ∧ E = f ∧ M' = mCl M) : XP M (cd3 a b c) [e, f, g] E M' := by
  subst ha; obtain ⟨rfl, rfl, rfl⟩ := h; exact ⟨by simp [cd3], rfl, rfl⟩
theorem x_3c {M M' : Mem} {a b c : Bool} {e f g E : String} (ha : a = true) (hb : b = true) (h : c = false ∧ E = g ∧ M' = mCl M) : XP M (cd3 a b c) [e, f, g] E M' := by
  subst ha; subst hb; obtain ⟨rfl, rfl, rfl⟩ := h; exact ⟨by simp [cd3], rfl, rfl⟩
theorem k_1 {a : Bool} (h : a = true) : cd1 a = 0 := by subst h; rfl
theorem k_2 {a b : Bool} (h : a = true) (g : b = true) : cd2 a b = 0 := by subst h; subst g; rfl
theorem k_3 {a b c : Bool} (h : a = true) (g : b = true) (f : c = true) : cd3 a b c = 0 := by subst h; subst g; subst f; rfl
set_option maxHeartbeats 1000000 in
set_option maxRecDepth 100000 in
theorem c_X11_open (l : Launch) (hfl : l.flags = flags0) (G : gW) (M : Mem) (τ : Mu) (hw : WF τ) (α : Nat → Nat) (hws : WS τ G α M) (hwt : WT τ α M) (hwb : WB τ α M) (had : ∀ p, p < 6 → AD τ p)  : CT l yX11_open cX11_open 1 (some .int) 0 0 0 0 G M [.ref (α 0)] (fun v M' => PC τ G α M (0) (τ) (some (.int (nI (un τ 46 46)))) v M') := by
  refine CT.of hfl rfl (Nat.le_of_ble_eq_true rfl) ?_
  intro pp ee ss mm ar bw mt cd C hgX hr hini
  have hx := hws.2.1
  have hwx := hwt.2.2.2.1
  have h9 := hw.nc.2
  have h13 := hw.sh.2
  have h17 := hw.nl.2
  have h26 := hw.ne.2
  have h44 := hw.ng.2
  have h46 := hw.op.2
  have h51 := hw.np.2
  refine V.eLo (lo' := [(0, .ref (α 0))]) rfl ?_
  refine r_aload_n C 0 dX11_open_0 rfl rfl ?_
  refine r_getI C fl_X11_295 rfl (hx.k 0 14 rfl) dX11_open_1 ?_
  refine V.ei (y := nI (un τ 46 46)) (hwx.2.2.2.2.2.1) ?_
  exact r_iret C hr (⟨rfl, rfl, ⟨α, ⟨hws, hwt, hwb⟩, rfl, CF.rf, fun _ _ hz_ => hz_⟩⟩) (by first | exact Nat.zero_le _ | decide) (by first | exact Nat.zero_le _ | decide) dX11_open_4
set_option maxHeartbeats 1000000 in
set_option maxRecDepth 100000 in
theorem c_X11_payments (l : Launch) (hfl : l.flags = flags0) (G : gW) (M : Mem) (τ : Mu) (hw : WF τ) (α : Nat → Nat) (hws : WS τ G α M) (hwt : WT τ α M) (hwb : WB τ α M) (had : ∀ p, p < 6 → AD τ p)  : CT l yX11_payments cX11_payments 1 (some .int) 1 0 0 20 G M [.ref (α 0)] (fun v M' => PC τ G α M (0) (τ) (some (.int (nI (un τ 51 51)))) v M') := by
  refine CT.of hfl rfl (Nat.le_of_ble_eq_true rfl) ?_
  intro pp ee ss mm ar bw mt cd C hgX hr hini
  have hx := hws.2.1
  have hwx := hwt.2.2.2.1
  have h9 := hw.nc.2
  have h13 := hw.sh.2
  have h17 := hw.nl.2
  have h26 := hw.ne.2
  have h44 := hw.ng.2
  have h46 := hw.op.2
  have h51 := hw.np.2
  refine V.eLo (lo' := [(0, .ref (α 0))]) rfl ?_
  refine r_aload_n C 0 dX11_payments_0 rfl rfl ?_
  refine r_getR C (b := (α 28)) fl_X11_38 rfl (hx.k 0 14 rfl) (hx.r 0 5 28 rfl) dX11_payments_1 ?_
  refine r_callV C hgX (ci := 2) ml_X11_67 im_Jx4a65c_size_8abf5 se_Jx4a65c_size_8abf5 rfl rfl (hx.k 28 3 rfl) (c_Jx4a65c_size_8abf5 l hfl G M (α 28) (un τ 51 51) hws.2.2.2.2.2.2.2.2.2.2.1.1 hws.2.2.2.2.2.2.2.2.2.2.1.2.1) rfl (Nat.le_of_ble_eq_true rfl) ⟨Nat.le_of_ble_eq_true rfl, Nat.le_of_ble_eq_true rfl⟩ ⟨Nat.le_of_ble_eq_true rfl, Nat.le_of_ble_eq_true rfl⟩ dX11_payments_4 rfl ?_
  rintro _ _ ⟨rfl, rfl⟩
  refine V.eSt (st' := [.int (nI (un τ 51 51))]) rfl ?_
  exact r_iret C hr (⟨rfl, rfl, ⟨α, ⟨hws, hwt, hwb⟩, rfl, CF.rf, fun _ _ hz_ => hz_⟩⟩) (by first | exact Nat.zero_le _ | decide) (by first | exact Nat.zero_le _ | decide) dX11_payments_7
set_option maxHeartbeats 1000000 in
set_option maxRecDepth 100000 in
theorem c_X11_filed (l : Launch) (hfl : l.flags = flags0) (G : gW) (M : Mem) (τ : Mu) (hw : WF τ) (α : Nat → Nat) (hws : WS τ G α M) (hwt : WT τ α M) (hwb : WB τ α M) (had : ∀ p, p < 6 → AD τ p) (x y : Int32) (b : Bool) : CX l yX11_filed cX11_filed 4 (some .long) 7 1 6 102 G M [.ref (α 0), .int x, .int y, .int (bI b)] (fun v M' => PC τ G α M (cd1 (rng x 3 && rng y 24)) (τ) (some (.long (if b = true then τ.2 52 (24 * x.toNatClampNeg + y.toNatClampNeg) else τ.2 53 (24 * x.toNatClampNeg + y.toNatClampNeg)))) v M') (fun E M' => XP M (cd1 (rng x 3 && rng y 24)) ["java/lang/IndexOutOfBoundsException"] E M') := by
  refine CX.of hfl rfl (Nat.le_of_ble_eq_true rfl) ?_
  intro pp ee ss mm ar bw mt cd C hgX hr hno
  have hx := hws.2.1
  have hwx := hwt.2.2.2.1
  have h9 := hw.nc.2
  have h13 := hw.sh.2
  have h17 := hw.nl.2
  have h26 := hw.ne.2
  have h44 := hw.ng.2
  have h46 := hw.op.2
  have h51 := hw.np.2
  refine V.eLo (lo' := [(0, .ref (α 0)), (1, .int x), (2, .int y), (3, .int (bI b))]) rfl ?_
  have jn19 : V pp l ee ({ frames := 7, cells := 1, slots := 6, locals := 102 } : Room) ss mm ar bw mt cd G (vx_MQ bw (Ke G (fun v M' => PC τ G α M (cd1 (rng x 3 && rng y 24)) (τ) (some (.long (if b = true then τ.2 52 (24 * x.toNatClampNeg + y.toNatClampNeg) else τ.2 53 (24 * x.toNatClampNeg + y.toNatClampNeg)))) v M')) (Kx G (fun E M' => XP M (cd1 (rng x 3 && rng y 24)) ["java/lang/IndexOutOfBoundsException"] E M')) ar ss 1 6 (gA G)) 4 M 0 0 19 [(0, .ref (α 0)), (1, .int x), (2, .int y), (3, .int (bI b))] [.int (bI (rng x 3 && rng y 24))] := by
    skip
    refine r_xS C hgX hno ml_X11_55 st_X11_needThere (c_X11_needThere l hfl G M (rng x 3 && rng y 24)) rfl (Nat.le_of_ble_eq_true rfl) ⟨Nat.le_of_ble_eq_true rfl, Nat.le_of_ble_eq_true rfl⟩ ⟨Nat.le_of_ble_eq_true rfl, Nat.le_of_ble_eq_true rfl⟩ dX11_filed_19 rfl (fun E_ M_ h_ => x_1 h_) ⟨Nat.le_of_ble_eq_true rfl, Nat.le_of_ble_eq_true rfl⟩ ?_
    rintro _ _ ⟨rfl, rfl, hq1⟩
    have hq := hq1
    obtain ⟨hqa, hqb⟩ := Bool.and_eq_true_iff.mp hq
    obtain ⟨c, hc, e_x⟩ := rng_t hqa
    obtain ⟨d, hd, e_y⟩ := rng_t hqb
    have hg := (hws.2.2.2.1 c hc).1
    refine V.eLo (lo' := [(0, .ref (α 0)), (1, .int (nI c)), (2, .int (nI d)), (3, .int (bI b))]) (by rw [e_x, e_y]) ?_
    refine r_iload_n C 3 dX11_filed_22 rfl rfl ?_
    refine r_if_eqB C (t := 40) dX11_filed_23 (by decide) (fun c23 => ?_) (fun c23 => ?_)
    · skip
      refine r_aload_n C 0 dX11_filed_40 rfl rfl ?_
      refine r_getR C (b := (α 3)) fl_X11_24 rfl (hx.k 0 14 rfl) (hx.r 0 2 3 rfl) dX11_filed_41 ?_
      refine r_iload_n C 1 dX11_filed_44 rfl rfl ?_
      refine r_aaloadN C (b := (gO α c 0)) 2 (by decide) (hx.k 3 25 rfl) (hx.n 3 3 rfl) (by omega) (by omega) (hws.2.2.2.1 c (by omega)).2 dX11_filed_45 ?_
      refine r_getR C (b := (gO α c 9)) fl_X11_337 rfl (hg.k 0 12 rfl) (hg.r 0 4 9 rfl) dX11_filed_46 ?_
      refine r_iload_n C 2 dX11_filed_49 rfl rfl ?_
      refine r_laloadN C (hg.k 9 21 rfl) (hg.n 9 24 rfl) (by omega) (by omega) dX11_filed_50 ?_
      refine V.el (y := τ.2 53 (24 * c + d)) (((hwt.2.2.1 c hc).2.2.2 d hd).2.1) ?_
      refine V.xret ?_
      exact r_lret C hr (⟨k_1 hq, by rw [e_x, e_y, nI_clamp (n := c) (by omega), nI_clamp (n := d) (by omega), if_neg (by rw [c23]; decide)], ⟨α, ⟨hws, hwt, hwb⟩, rfl, CF.rf, fun _ _ hz_ => hz_⟩⟩) (by first | exact Nat.zero_le _ | decide) (by first | exact Nat.zero_le _ | decide) dX11_filed_51
    · skip
      refine r_aload_n C 0 dX11_filed_26 rfl rfl ?_
      refine r_getR C (b := (α 3)) fl_X11_24 rfl (hx.k 0 14 rfl) (hx.r 0 2 3 rfl) dX11_filed_27 ?_
      refine r_iload_n C 1 dX11_filed_30 rfl rfl ?_
      refine r_aaloadN C (b := (gO α c 0)) 2 (by decide) (hx.k 3 25 rfl) (hx.n 3 3 rfl) (by omega) (by omega) (hws.2.2.2.1 c (by omega)).2 dX11_filed_31 ?_
      refine r_getR C (b := (gO α c 8)) fl_X11_334 rfl (hg.k 0 12 rfl) (hg.r 0 3 8 rfl) dX11_filed_32 ?_
      refine r_iload_n C 2 dX11_filed_35 rfl rfl ?_
      refine r_laloadN C (hg.k 8 21 rfl) (hg.n 8 24 rfl) (by omega) (by omega) dX11_filed_36 ?_
      refine V.el (y := τ.2 52 (24 * c + d)) (((hwt.2.2.1 c hc).2.2.2 d hd).1) ?_
      refine r_goto C (t := 51) dX11_filed_37 (by decide) ?_
      refine V.xret ?_
      exact r_lret C hr (⟨k_1 hq, by rw [e_x, e_y, nI_clamp (n := c) (by omega), nI_clamp (n := d) (by omega), if_pos c23], ⟨α, ⟨hws, hwt, hwb⟩, rfl, CF.rf, fun _ _ hz_ => hz_⟩⟩) (by first | exact Nat.zero_le _ | decide) (by first | exact Nat.zero_le _ | decide) dX11_filed_51
  refine r_iload_n C 1 dX11_filed_0 rfl rfl ?_
  refine r_callS C hgX ml_X11_49 st_X11_isPlace (c_X11_isPlace l hfl G M x) rfl (Nat.le_of_ble_eq_true rfl) ⟨Nat.le_of_ble_eq_true rfl, Nat.le_of_ble_eq_true rfl⟩ ⟨Nat.le_of_ble_eq_true rfl, Nat.le_of_ble_eq_true rfl⟩ dX11_filed_1 rfl ?_
  rintro _ _ ⟨rfl, rfl⟩
  refine V.eSt (st' := [.int (bI (rng x 3))]) rfl ?_
  refine r_if_eqB C (t := 18) dX11_filed_4 (by decide) (fun c4 => ?_) (fun c4 => ?_)
  · skip
    refine r_iconst C (v := nI 0) dX11_filed_18 (by decide) ?_
    refine V.eSt (st' := [.int (bI false)]) rfl ?_
    refine V.ei (y := bI (rng x 3 && rng y 24)) (congrArg bI (by simp [c4])) ?_
    exact jn19
  · skip
    refine r_iload_n C 2 dX11_filed_7 rfl rfl ?_
    refine r_callS C hgX ml_X11_141 st_X11_isMonth (c_X11_isMonth l hfl G M y) rfl (Nat.le_of_ble_eq_true rfl) ⟨Nat.le_of_ble_eq_true rfl, Nat.le_of_ble_eq_true rfl⟩ ⟨Nat.le_of_ble_eq_true rfl, Nat.le_of_ble_eq_true rfl⟩ dX11_filed_8 rfl ?_
    rintro _ _ ⟨rfl, rfl⟩
    refine V.eSt (st' := [.int (bI (rng y 24))]) rfl ?_
    refine r_if_eqB C (t := 18) dX11_filed_11 (by decide) (fun c11 => ?_) (fun c11 => ?_)
    · skip
      refine r_iconst C (v := nI 0) dX11_filed_18 (by decide) ?_
      refine V.eSt (st' := [.int (bI false)]) rfl ?_
      refine V.ei (y := bI (rng x 3 && rng y 24)) (congrArg bI (by simp [c4, c11])) ?_
      exact jn19
    · skip
      refine r_iconst C (v := nI 1) dX11_filed_14 (by decide) ?_
      refine r_goto C (t := 19) dX11_filed_15 (by decide) ?_
      refine V.eSt (st' := [.int (bI true)]) rfl ?_
      refine V.ei (y := bI (rng x 3 && rng y 24)) (congrArg bI (by simp [c4, c11])) ?_
      exact jn19

