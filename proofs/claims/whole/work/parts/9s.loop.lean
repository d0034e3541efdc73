/-! THE LAW: its loop, its beginning -/
theorem and63 (x : Int32) : ∃ k, k < 64 ∧ x &&& nI 63 = nI k := by
  refine ⟨(x.toBitVec &&& 63#32).toNat, ?_, ?_⟩
  · rw [BitVec.toNat_and]
    exact Nat.lt_of_le_of_lt Nat.and_le_right (by decide)
  · apply Int32.toBitVec_inj.mp
    show x.toBitVec &&& BitVec.ofNat 32 63 = BitVec.ofNat 32 (x.toBitVec &&& 63#32).toNat
    rw [BitVec.ofNat_toNat, BitVec.setWidth_eq]
theorem nI_sub8 {L n : Nat} (hL : L ≤ 4096) (hn : n ≤ 8192) (h : ¬ (nI L - nI 8 < nI n)) : n + 8 ≤ L := by
  have e1 := nI_toInt (n := L) (by omega)
  have e2 := nI_toInt (n := 8) (by decide)
  have e3 := nI_toInt (n := n) (by omega)
  rw [Int32.lt_iff_toInt_lt, Int32.toInt_sub, e1, e2, e3, Int.bmod_eq_of_le (by omega) (by omega)] at h
  omega
theorem wMk_o {M : Mem} {a κ n x : Nat} (h : x ≠ a) (h1 : x ≠ a + 1) : mK (wMk M a κ n) x = mK M x ∧ mN (wMk M a κ n) x = mN M x ∧ mI (wMk M a κ n) x = mI M x ∧ mL (wMk M a κ n) x = mL M x ∧ mR (wMk M a κ n) x = mR M x :=
  ⟨va_up_ne _ _ h, (va_up_ne _ _ h1).trans (va_up_ne _ _ h), va_up_ne _ _ h, va_up_ne _ _ h, va_up_ne _ _ h⟩
theorem WS.kp {τ : Mu} {G : gW} {α : Nat → Nat} {M M' : Mem} (hw : WF τ) (ws : WS τ G α M) (kp : KP (fun _ => False) (fun _ => False) M M') : WS τ G α M' := by
  obtain ⟨sz, el, ix, hl⟩ := ws.ls
  have lz := hl.1.kp (A := fun _ => False) (B := fun _ => False) kp (fun _ _ h => h) (fun _ _ h => h)
  exact WS.grow hw ws (fun _ _ => rfl) (fun k hk => ⟨(kp _ (ws.kn hk)).1, (kp _ (ws.kn hk)).2.1, fun _ => (kp _ (ws.kn hk)).2.2.2 id⟩) ws.1 (fun c hc => .inl hc) (fun g hg => .inl hg) (fun k hk => .inl ⟨hk, rfl⟩) (fun k hk => .inl hk) (sz := sz) (el := el) (ix := ix) ⟨lz, hl.2⟩
theorem WD.kp {τ : Mu} {G : gW} {α : Nat → Nat} {M M1 : Mem} (hw : WF τ) (w : WD τ G α M) (kp : KP (fun _ => False) (fun _ => False) M M1) : WD τ G α M1 := by
  have h9 := hw.nc.2
  have h44 := hw.ng.2
  have h17 := hw.nl.2
  have h51 := hw.np.2
  obtain ⟨ws, ⟨w1, w2, w3, w4, w5⟩, wb⟩ := w
  have i : ∀ k, LV τ k → mI M1 (α k) = mI M (α k) := fun k hk => ((kp _ (ws.kn hk)).2.2.1 id).1
  have l : ∀ k, LV τ k → mL M1 (α k) = mL M (α k) := fun k hk => ((kp _ (ws.kn hk)).2.2.1 id).2
  refine ⟨ws.kp hw kp, ⟨fun c hc => (w1 c hc).cg (fun k _ => congrFun (i _ (lv_c hc (show 0 < 10 by decide))) k) (fun o _ ho => i _ (lv_c hc (show o < 10 by omega))), fun r hr => (w2 r hr).cg (fun o ho => i _ (lv_h hr (show o < 57 by omega))) (fun o ho => l _ (lv_h hr (show o < 57 by omega))), fun x hx => (w3 x hx).cg (fun o ho => i _ (lv_g hx ho)) (fun o ho => l _ (lv_g hx ho)), ?_, w5.cg (fun k hk => congrFun (i _ (lv_l hk)) 1) (fun g hg => i _ (lv_a hg (show 0 < 2 by decide))) (fun k hk => ⟨i _ (lv_y hk), l _ (lv_y hk)⟩)⟩, fun c hc z => ?_, fun r hr z => ?_⟩
  · obtain ⟨b1, b2, b3, b4, b5, b6, b7⟩ := w4
    unfold WTx
    rw [i 0 (lv_s (by decide))]
    exact ⟨b1, b2, b3, b4, b5, b6, b7.cgs (fun o ho => i (4 + o) (lv_s (by omega)))⟩
  · have e0 : mI M1 (cO α c 0) = mI M (cO α c 0) := i _ (lv_c hc (by decide))
    have e7 : mL M1 (cO α c 7) = mL M (cO α c 7) := l _ (lv_c hc (by decide))
    have e8 : mI M1 (cO α c 8) = mI M (cO α c 8) := i _ (lv_c hc (by decide))
    have g := wb.1 c hc (by rw [← e0]; exact z)
    intro m hm
    rw [e7, e8]
    exact g m hm
  · refine BF.cg (fun o ho => ⟨i _ (lv_b hr ho), l _ (lv_b hr ho)⟩) (fun g hg _ => l _ (lv_a hg (by decide))) (fun c hc _ => ⟨i _ (lv_c hc (show 8 < 10 by decide)), l _ (lv_c hc (show 7 < 10 by decide)), l _ (lv_c hc (show 9 < 10 by decide))⟩) (fun k hk _ => congrFun (i _ (lv_l hk)) 2) (wb.2 r hr ?_)
    have e0 : mI M1 (bO α r 0) = mI M (bO α r 0) := i _ (lv_b hr (by decide))
    rw [← e0]; exact z
set_option maxHeartbeats 4000000 in
set_option maxRecDepth 100000 in
theorem law_loop (l : Launch) (hfl : l.flags = flags0) {p : Program} {e : Env} {s : State} {m : MethodId} {args : Array Value} {below : List Frame} {meth : Method} {c : Code} {G : gW} (C : Cx p l s m args meth c G RL cL_law 8) (hgX : gX G s s.heap) {b L : Nat} {xs : Nat → Int32} (hX : va_X b L xs s s.heap) (hbl : b < s.heap.size) (hbA : ¬ gA G b) (hL : L ≤ 4096) {q mb ao : Nat} {Q : State → Prop} (fin : ∀ M2 cells slots, cells ≤ 601024 → slots ≤ 7293034 → V p l e room_1 s m args below meth c G Q 8 M2 cells slots 2697 [(0, .ref b), (1, .ref q), (2, .ref mb), (3, .ref ao)] []) : ∀ (f i n : Nat) (τ : Mu) (α : Nat → Nat) (M : Mem) (cells slots : Nat), i = 8 * n → i ≤ L + 8 → L + 16 - i < f → LJ τ G α M q mb ao → LK n τ → cells ≤ 1000 + 20 * n → slots ≤ 50000 + 4000 * n → V p l e room_1 s m args below meth c G Q 8 M cells slots 23 [(0, .ref b), (1, .ref q), (2, .ref mb), (3, .ref ao), (4, .int (nI i))] [] := by
  intro f
  induction f with
  | zero => intro i n τ α M cells slots _ _ hf; exact absurd hf (Nat.not_lt_zero _)
  | succ f ih =>
    intro i n τ α M cells slots hin hiL hf hj hk hcs hss
    refine r_iload C 4 dL_law_23 rfl ?_
    refine r_aload_n C 0 dL_law_25 rfl rfl ?_
    refine r_slen C hX hbl hbA dL_law_26 ?_
    refine r_bipush C (v := nI 8) dL_law_27 (by decide) ?_
    refine r_isub C dL_law_29 ?_
    refine r_icmp_gt C (t := 2697) dL_law_30 (by decide) (fun _ => ?_) (fun hlt => ?_)
    · refine V.sub [0, 1, 2, 3] (lo' := [(0, .ref b), (1, .ref q), (2, .ref mb), (3, .ref ao)]) rfl ?_
      exact fin _ _ _ (by omega) (by omega)
    · have hi8 : i + 8 ≤ L := nI_sub8 hL (by omega) hlt
      have hn512 : n ≤ 512 := by omega
      have kk : ∀ U be M2, LJ U G be M2 q mb ao → LK (n + 1) U → V p l e room_1 s m args below meth c G Q 8 M2 (cells + 20) (slots + 4000) 2691 [(0, .ref b), (1, .ref q), (2, .ref mb), (3, .ref ao), (4, .int (nI i))] [] := by
        intro U be M2 hj2 hk2
        refine r_iinc C (v := nI (i + 8)) (lo' := [(4, .int (nI (i + 8))), (0, .ref b), (1, .ref q), (2, .ref mb), (3, .ref ao)]) 4 dL_law_2691 rfl (nI_addI i 8) (by decide) rfl ?_
        refine r_goto C (t := 23) dL_law_2694 (by decide) ?_
        refine V.sub [1, 2, 3, 4, 0] (lo' := [(0, .ref b), (1, .ref q), (2, .ref mb), (3, .ref ao), (4, .int (nI (i + 8)))]) rfl ?_
        exact ih (i + 8) (n + 1) U be M2 _ _ (by omega) (by omega) (by omega) hj2 hk2 (by omega) (by omega)
      refine r_aload_n C 0 dL_law_33 rfl rfl ?_
      refine r_iload C 4 dL_law_34 rfl ?_
      refine r_sld C hX hbl hbA hL (i := i) (by omega) dL_law_36 ?_
      refine r_bipush C (v := nI 63) dL_law_37 (by decide) ?_
      refine r_iand C dL_law_39 ?_
      obtain ⟨k, hk64, hkx⟩ := and63 (xs i)
      refine V.ei (y := nI k) hkx ?_
      rcases (show k = 0 ∨ k = 1 ∨ k = 2 ∨ k = 3 ∨ k = 4 ∨ k = 5 ∨ k = 6 ∨ k = 7 ∨ k = 8 ∨ k = 9 ∨ k = 10 ∨ k = 11 ∨ k = 12 ∨ k = 13 ∨ k = 14 ∨ k = 15 ∨ k = 16 ∨ k = 17 ∨ k = 18 ∨ k = 19 ∨ k = 20 ∨ k = 21 ∨ k = 22 ∨ k = 23 ∨ k = 24 ∨ k = 25 ∨ k = 26 ∨ k = 27 ∨ k = 28 ∨ k = 29 ∨ k = 30 ∨ k = 31 ∨ k = 32 ∨ k = 33 ∨ 34 ≤ k by omega) with rfl | rfl | rfl | rfl | rfl | rfl | rfl | rfl | rfl | rfl | rfl | rfl | rfl | rfl | rfl | rfl | rfl | rfl | rfl | rfl | rfl | rfl | rfl | rfl | rfl | rfl | rfl | rfl | rfl | rfl | rfl | rfl | rfl | rfl | h34
      · refine r_tabIn C (off := 152) (t := 192) dL_law_40 (by decide) (by decide) (by decide) (by decide) ?_
        exact lc_contract l hfl C hgX hX hbl hbA hL hi8 hj hk (by omega) (by omega) (by omega) kk
      · refine r_tabIn C (off := 300) (t := 340) dL_law_40 (by decide) (by decide) (by decide) (by decide) ?_
        exact lc_pay l hfl C hgX hX hbl hbA hL hi8 hj hk (by omega) (by omega) (by omega) kk
      · refine r_tabIn C (off := 380) (t := 420) dL_law_40 (by decide) (by decide) (by decide) (by decide) ?_
        exact lc_shift l hfl C hgX hX hbl hbA hL hi8 hj hk (by omega) (by omega) (by omega) kk
      · refine r_tabIn C (off := 472) (t := 512) dL_law_40 (by decide) (by decide) (by decide) (by decide) ?_
        exact lc_minutes l hfl C hgX hX hbl hbA hL hi8 hj hk (by omega) (by omega) (by omega) kk
      · refine r_tabIn C (off := 540) (t := 580) dL_law_40 (by decide) (by decide) (by decide) (by decide) ?_
        exact lc_overtime l hfl C hgX hX hbl hbA hL hi8 hj hk (by omega) (by omega) (by omega) kk
      · refine r_tabIn C (off := 608) (t := 648) dL_law_40 (by decide) (by decide) (by decide) (by decide) ?_
        exact lc_base l hfl C hgX hX hbl hbA hL hi8 hj hk (by omega) (by omega) (by omega) kk
      · refine r_tabIn C (off := 675) (t := 715) dL_law_40 (by decide) (by decide) (by decide) (by decide) ?_
        exact lc_leaveRule l hfl C hgX hX hbl hbA hL hi8 hj hk (by omega) (by omega) (by omega) kk
      · refine r_tabIn C (off := 735) (t := 775) dL_law_40 (by decide) (by decide) (by decide) (by decide) ?_
        exact lc_leave l hfl C hgX hX hbl hbA hL hi8 hj hk (by omega) (by omega) (by omega) kk
      · refine r_tabIn C (off := 810) (t := 850) dL_law_40 (by decide) (by decide) (by decide) (by decide) ?_
        exact lc_leaveLeft l hfl C hgX hX hbl hbA hL hi8 hj hk (by omega) (by omega) (by omega) kk
      · refine r_tabIn C (off := 878) (t := 918) dL_law_40 (by decide) (by decide) (by decide) (by decide) ?_
        exact lc_word l hfl C hgX hX hbl hbA hL hi8 hj hk (by omega) (by omega) (by omega) kk
      · refine r_tabIn C (off := 946) (t := 986) dL_law_40 (by decide) (by decide) (by decide) (by decide) ?_
        exact lc_element l hfl C hgX hX hbl hbA hL hi8 hj hk (by omega) (by omega) (by omega) kk
      · refine r_tabIn C (off := 1014) (t := 1054) dL_law_40 (by decide) (by decide) (by decide) (by decide) ?_
        exact lc_order l hfl C hgX hX hbl hbA hL hi8 hj hk (by omega) (by omega) (by omega) kk
      · refine r_tabIn C (off := 1070) (t := 1110) dL_law_40 (by decide) (by decide) (by decide) (by decide) ?_
        exact lc_bonus l hfl C hgX hX hbl hbA hL hi8 hj hk (by omega) (by omega) (by omega) kk
      · refine r_tabIn C (off := 1162) (t := 1202) dL_law_40 (by decide) (by decide) (by decide) (by decide) ?_
        exact lc_contribution l hfl C hgX hX hbl hbA hL hi8 hj hk (by omega) (by omega) (by omega) kk
      · refine r_tabIn C (off := 1234) (t := 1274) dL_law_40 (by decide) (by decide) (by decide) (by decide) ?_
        exact lc_bracket l hfl C hgX hX hbl hbA hL hi8 hj hk (by omega) (by omega) (by omega) kk
      · refine r_tabIn C (off := 1338) (t := 1378) dL_law_40 (by decide) (by decide) (by decide) (by decide) ?_
        exact lc_state l hfl C hgX hX hbl hbA hL hi8 hj hk (by omega) (by omega) (by omega) kk
      · refine r_tabIn C (off := 1398) (t := 1438) dL_law_40 (by decide) (by decide) (by decide) (by decide) ?_
        exact lc_pension l hfl C hgX hX hbl hbA hL hi8 hj hk (by omega) (by omega) (by omega) kk
      · refine r_tabIn C (off := 1458) (t := 1498) dL_law_40 (by decide) (by decide) (by decide) (by decide) ?_
        exact lc_yearTax l hfl C hgX hX hbl hbA hL hi8 hj hk (by omega) (by omega) (by omega) kk
      · refine r_tabIn C (off := 1581) (t := 1621) dL_law_40 (by decide) (by decide) (by decide) (by decide) ?_
        exact lc_slip l hfl C hgX hX hbl hbA hL hi8 hj hk (by omega) (by omega) (by omega) kk
      · refine r_tabIn C (off := 1660) (t := 1700) dL_law_40 (by decide) (by decide) (by decide) (by decide) ?_
        exact lc_slipIn l hfl C hgX hX hbl hbA hL hi8 hj hk (by omega) (by omega) (by omega) kk
      · refine r_tabIn C (off := 1751) (t := 1791) dL_law_40 (by decide) (by decide) (by decide) (by decide) ?_
        exact lc_elementOf l hfl C hgX hX hbl hbA hL hi8 hj hk (by omega) (by omega) (by omega) kk
      · refine r_tabIn C (off := 1830) (t := 1870) dL_law_40 (by decide) (by decide) (by decide) (by decide) ?_
        exact lc_pensionOf l hfl C hgX hX hbl hbA hL hi8 hj hk (by omega) (by omega) (by omega) kk
      · refine r_tabIn C (off := 1897) (t := 1937) dL_law_40 (by decide) (by decide) (by decide) (by decide) ?_
        exact lc_grossFor l hfl C hgX hX hbl hbA hL hi8 hj hk (by omega) (by omega) (by omega) kk
      · refine r_tabIn C (off := 1989) (t := 2029) dL_law_40 (by decide) (by decide) (by decide) (by decide) ?_
        exact lc_garnish l hfl C hgX hX hbl hbA hL hi8 hj hk (by omega) (by omega) (by omega) kk
      · refine r_tabIn C (off := 2107) (t := 2147) dL_law_40 (by decide) (by decide) (by decide) (by decide) ?_
        exact lc_takenBy l hfl C hgX hX hbl hbA hL hi8 hj hk (by omega) (by omega) (by omega) kk
      · refine r_tabIn C (off := 2174) (t := 2214) dL_law_40 (by decide) (by decide) (by decide) (by decide) ?_
        exact lc_advance l hfl C hgX hX hbl hbA hL hi8 hj hk (by omega) (by omega) (by omega) kk
      · refine r_tabIn C (off := 2241) (t := 2281) dL_law_40 (by decide) (by decide) (by decide) (by decide) ?_
        exact lc_open l hfl C hgX hX hbl hbA hL hi8 hj hk (by omega) (by omega) (by omega) kk
      · refine r_tabIn C (off := 2254) (t := 2294) dL_law_40 (by decide) (by decide) (by decide) (by decide) ?_
        exact lc_close l hfl C hgX hX hbl hbA hL hi8 hj hk (by omega) (by omega) (by omega) kk
      · refine r_tabIn C (off := 2298) (t := 2338) dL_law_40 (by decide) (by decide) (by decide) (by decide) ?_
        exact lc_payments l hfl C hgX hX hbl hbA hL hi8 hj hk (by omega) (by omega) (by omega) kk
      · refine r_tabIn C (off := 2311) (t := 2351) dL_law_40 (by decide) (by decide) (by decide) (by decide) ?_
        exact lc_payment l hfl C hgX hX hbl hbA hL hi8 hj hk (by omega) (by omega) (by omega) kk
      · refine r_tabIn C (off := 2378) (t := 2418) dL_law_40 (by decide) (by decide) (by decide) (by decide) ?_
        exact lc_comeBack l hfl C hgX hX hbl hbA hL hi8 hj hk (by omega) (by omega) (by omega) kk
      · refine r_tabIn C (off := 2433) (t := 2473) dL_law_40 (by decide) (by decide) (by decide) (by decide) ?_
        exact lc_owed l hfl C hgX hX hbl hbA hL hi8 hj hk (by omega) (by omega) (by omega) kk
      · refine r_tabIn C (off := 2488) (t := 2528) dL_law_40 (by decide) (by decide) (by decide) (by decide) ?_
        exact lc_filed l hfl C hgX hX hbl hbA hL hi8 hj hk (by omega) (by omega) (by omega) kk
      · refine r_tabIn C (off := 2583) (t := 2623) dL_law_40 (by decide) (by decide) (by decide) (by decide) ?_
        exact lc_corrections l hfl C hgX hX hbl hbA hL hi8 hj hk (by omega) (by omega) (by omega) kk
      · refine r_tabOut C (t := 2691) dL_law_40 (.inr (by rw [nI_toInt (n := k) (by omega)]; omega)) (by decide) ?_
        refine V.widen (k := cells + 20) (n := slots + 4000) (by omega) (by omega) ?_
        exact kk τ α M hj hk.up
set_option maxHeartbeats 4000000 in
set_option maxRecDepth 100000 in
theorem law_go (l : Launch) (hfl : l.flags = flags0) {p : Program} {e : Env} {s : State} {m : MethodId} {args : Array Value} {below : List Frame} {meth : Method} {c : Code} {G : gW} (C : Cx p l s m args meth c G RL cL_law 8) (hgX : gX G s s.heap) {b L : Nat} {xs : Nat → Int32} (hX : va_X b L xs s s.heap) (hbl : b < s.heap.size) (hbA : ¬ gA G b) (hL : L ≤ 4096) {Q : State → Prop} (fin : ∀ q mb ao M2 cells slots, cells ≤ 601024 → slots ≤ 7293034 → V p l e room_1 s m args below meth c G Q 8 M2 cells slots 2697 [(0, .ref b), (1, .ref q), (2, .ref mb), (3, .ref ao)] []) {M0 : Mem} : V p l e room_1 s m args below meth c G Q 8 M0 0 0 0 [(0, .ref b)] [] := by
  refine V.mark C (fun z hz h0 => ?_)
  refine r_new C (q := z) nl_L_8 hz (h0 z (Nat.le_refl z)) (va_up_self _ _ _) (Nat.le_of_ble_eq_true rfl) (Nat.le_of_ble_eq_true rfl) dL_law_0 ?_
  refine r_dup C dL_law_3 rfl ?_
  have hNB : NB tbAll z 1 [] [] (gS G 0) zI zL (mMk M0 z) (wMk (mMk M0 z) z 14 0) := NB.cell (M := mMk M0 z) (κ := 14) (T := tbAll) h0 ⟨rfl, rfl⟩
  refine r_callI C hgX ml_L_128 im_X11_init rfl (c_X11_init l hfl G _ (mMk M0 z) z hz hNB) rfl (Nat.le_of_ble_eq_true rfl) (rm_hR (Nat.le_of_ble_eq_true rfl) (Nat.le_of_ble_eq_true rfl)) (rm_hf (Nat.le_of_ble_eq_true rfl) (Nat.le_of_ble_eq_true rfl)) dL_law_4 rfl ?_
  intro v1 M1 hp1
  obtain ⟨hv1, hN1⟩ := hp1
  subst hv1
  have hW1 : WD τ0 G (fun k => z + k) M1 := start_w hN1
  have hz1 : ∀ a, z + 476 ≤ a → mK M1 a = 0 := hN1.2.1
  have hn1 : mN M1 (z + 476) = 1 := hN1.2.2.1
  clear hN1 hNB
  refine V.eSt (st' := [.ref z]) rfl ?_
  refine r_astore_n C (lo' := [(1, .ref z), (0, .ref b)]) dL_law_7 rfl (by decide) rfl ?_
  refine r_new C (q := z + 476) nl_L_129 (Nat.le_trans hz (Nat.le_add_right _ _)) (hz1 _ (Nat.le_refl _)) hn1 (Nat.le_of_ble_eq_true rfl) (Nat.le_of_ble_eq_true rfl) dL_law_8 ?_
  refine r_dup C dL_law_11 rfl ?_
  refine r_callI C hgX ml_L_131 im_X12_init rfl (c_X12_init l hfl G (wMk M1 (z + 476) 15 0) (z + 476) (Nat.le_trans hz (Nat.le_add_right _ _)) (va_up_self _ _ _) (fun a ha => (va_up_ne _ _ (by omega)).trans (hz1 a (by omega))) (va_up_self _ _ _) ⟨va_up_self _ _ _, va_up_self _ _ _⟩) rfl (Nat.le_of_ble_eq_true rfl) (rm_hR (Nat.le_of_ble_eq_true rfl) (Nat.le_of_ble_eq_true rfl)) (rm_hf (Nat.le_of_ble_eq_true rfl) (Nat.le_of_ble_eq_true rfl)) dL_law_12 rfl ?_
  intro v2 M2 hp2
  obtain ⟨hv2, hmok, hini, hz2, hn2, hlt2⟩ := hp2
  subst hv2
  refine V.eSt (st' := [.ref (z + 476)]) rfl ?_
  refine r_astore_n C (lo' := [(2, .ref (z + 476)), (1, .ref z), (0, .ref b)]) dL_law_15 rfl (by decide) rfl ?_
  refine r_iconst C (v := nI 1) dL_law_16 (by decide) ?_
  refine r_newarr C (q := z + 476 + 59) 1 (by decide) rfl ac_long (by decide) (by omega) (hz2 _ (Nat.le_refl _)) hn2 (Nat.le_of_ble_eq_true rfl) (Nat.le_of_ble_eq_true rfl) dL_law_17 ?_
  refine r_astore_n C (lo' := [(3, .ref (z + 476 + 59)), (2, .ref (z + 476)), (1, .ref z), (0, .ref b)]) dL_law_19 rfl (by decide) rfl ?_
  refine r_iconst C (v := nI 0) dL_law_20 (by decide) ?_
  refine r_istore C (lo' := [(4, .int (nI 0)), (3, .ref (z + 476 + 59)), (2, .ref (z + 476)), (1, .ref z), (0, .ref b)]) dL_law_21 (by decide) rfl ?_
  refine V.sub [4, 3, 2, 1, 0] (lo' := [(0, .ref b), (1, .ref z), (2, .ref (z + 476)), (3, .ref (z + 476 + 59)), (4, .int (nI 0))]) rfl ?_
  have kp : KP (fun _ => False) (fun _ => False) M1 (wMk M2 (z + 476 + 59) 21 1) := fun x hx => by
    have hxz : x < z + 476 := by
      apply Classical.byContradiction
      intro h
      exact hx (hz1 x (by omega))
    obtain ⟨a1, a2, a3, a4, a5⟩ := wMk_o (M := M2) (a := z + 476 + 59) (κ := 21) (n := 1) (x := x) (by omega) (by omega)
    obtain ⟨b1, b2, b3, b4, b5⟩ := hlt2 x hxz
    obtain ⟨c1, c2, c3, c4, c5⟩ := wMk_o (M := M1) (a := z + 476) (κ := 15) (n := 0) (x := x) (by omega) (by omega)
    exact ⟨a1.trans (b1.trans c1), a2.trans (b2.trans c2), fun _ => ⟨a3.trans (b3.trans c3), a4.trans (b4.trans c4)⟩, fun _ => a5.trans (b5.trans c5)⟩
  have hlv : ∀ k, LV τ0 k → k < 476 := fun k h => by
    have u1 := u0 (k := 9) (i := 9) (by decide)
    have u2 := u0 (k := 44) (i := 44) (by decide)
    have u3 := u0 (k := 17) (i := 17) (by decide)
    have u4 := u0 (k := 51) (i := 51) (by decide)
    unfold LV at h
    omega
  have hmt : MT τ0 (z + 476) M2 := ⟨hmok, te0 hini⟩
  have hj : LJ τ0 G (fun k => z + k) (wMk M2 (z + 476 + 59) 21 1) z (z + 476) (z + 476 + 59) :=
    ⟨wf0, hW1.kp wf0 kp, rfl, hmt.cg (fun a a1 a2 => wMk_o (by omega) (by omega)), ⟨va_up_self _ _ _, (va_up_ne _ _ (by omega)).trans (va_up_self _ _ _)⟩, fun k hk e => by have := hlv k hk; have e2 : z + 476 + 59 = z + k := e; omega, fun a a1 a2 k hk e => by have := hlv k hk; have e2 : a = z + k := e; omega, .inr (by omega)⟩
  exact law_loop l hfl C hgX hX hbl hbA hL (fin _ _ _) (L + 17) 0 0 τ0 _ _ _ _ rfl (Nat.zero_le _) (by omega) hj lk0 (Nat.le_of_ble_eq_true rfl) (Nat.le_of_ble_eq_true rfl)
