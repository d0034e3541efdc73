/-! THE LAW: its body -/
theorem nl_L_10 : NL RL 10 13 12 := ⟨RX11, TX11, tyX11, rfl, in_X11, tyX11_ok, by decide +kernel, cl_L_10, ia_X11, it_X11⟩
theorem rm_hf {a b : Nat} (h1 : a ≤ 600064) (h2 : b ≤ 7301640) : a ≤ room_1.cells ∧ b ≤ room_1.slots := ⟨h1, h2⟩
theorem rm_hR {a b : Nat} (h1 : a ≤ 2048) (h2 : b ≤ 84000) : a ≤ room_1.frames ∧ b ≤ room_1.locals := ⟨h1, h2⟩
theorem WPo.c1 {τ U : Mu} {G : gW} {q Cd : Nat} {F : Nat → Prop} {M M' : Mem} {R t : Value} {ts : List Value} {v : Option Value} (h : WPo τ G q F M Cd U R (t :: ts) v M') (hC : Cd = 1) : v = some t ∧ OW τ G q F M' := by
  subst hC
  exact ⟨h.1, h.2.1⟩
theorem WPo.c2 {τ U : Mu} {G : gW} {q Cd : Nat} {F : Nat → Prop} {M M' : Mem} {R t t2 : Value} {ts : List Value} {v : Option Value} (h : WPo τ G q F M Cd U R (t :: t2 :: ts) v M') (hC : Cd = 2) : v = some t2 ∧ OW τ G q F M' := by
  subst hC
  exact ⟨h.1, h.2.1⟩
theorem c1_1 {a : Bool} (h : a = false) : cd1 a = 1 := by subst h; rfl
theorem c2_1 {a b : Bool} (h : a = false) : cd2 a b = 1 := by subst h; rfl
theorem c3_1 {a b c : Bool} (h : a = false) : cd3 a b c = 1 := by subst h; rfl
theorem c3_2 {a b c : Bool} (h : a = true) (g : b = false) : cd3 a b c = 2 := by subst h; subst g; rfl
theorem rng_no {n : Nat} (hn : n < 2 ^ 31) : rng (nI n) n = false := by
  unfold rng
  rw [decide_eq_false_iff_not, nI_toInt hn]
  omega
theorem AN.fr {M M' : Mem} {na n0 n1 n2 : Nat} (h : AN M na n0 n1 n2) (e : mI M' na = mI M na) : AN M' na n0 n1 n2 := ⟨(congrFun e 0).trans h.1, (congrFun e 1).trans h.2.1, (congrFun e 2).trans h.2.2⟩
section Wide
variable {p : Program} {l : Launch} {e : Env} {R : Room} {s : State} {m : MethodId} {args : Array Value} {below : List Frame} {meth : Method} {c : Code} {G : gW} {own : String} {cc : ByteArray} {Q : State → Prop} {nL : Nat} {M : Mem} {cells slots pc : Nat} {lo : List (Nat × Value)} {st : List Value}
variable {C : String} {idx : Nat} {y : MethodName} {b : ByteArray} {maxL n fr mc ms lc : Nat} {ret : Option FieldType} {post : Option Value → Mem → Prop} {As : List Value}
/-- a static call with up to 16 words below its arguments -/
theorem r_callSw (Cc : Cx p l s m args meth c G own cc nL) (hgX : gX G s s.heap) (L : ML own idx C y b maxL ret n) (hi : Cond.static y ∈ tw_big)
    (hM : CT l y b maxL ret fr mc ms lc G M As post) (hn : As.length = n) (hW : (st.map fun v => v.category).sum ≤ 16) (hR : fr + 1 ≤ R.frames ∧ 16 + (maxL + 11) + lc ≤ R.locals) (hf : cells + mc ≤ R.cells ∧ slots + ms ≤ R.slots) (hd : decode cc pc = .ok (.invokestatic idx, 3)) {st0 : List Value} (hst : st0 = As.reverse ++ st)
    (kk : ∀ (v : Option Value) (M' : Mem), post v M' → V p l e R s m args below meth c G Q nL M' (cells + mc) (slots + ms) (pc + 3) lo (v.toList ++ st)) : V p l e R s m args below meth c G Q nL M cells slots pc lo st0 := by
  intro H locs ls h1 h2 h3
  subst hst
  refine Ke.go (rest := st) (av := As.toArray) ?_ h2 h3 kk
  have cb : CallB R s args own idx y b maxL ret (Cond.code y b maxL ret :: tw_big) ({ frames := fr, cells := mc, slots := ms, locals := lc } : Room) mc ms n := CT.cb Cc.2.2.2.1 L ⟨hR.1, by omega⟩
  have hcb := cb
  obtain ⟨hrc, hrs, hfr, hlo, hws, hcw, hcode, hini, hy, hlen, hl⟩ := hcb
  have hK : Back l R p e below s args y 3 16 (PreOf R mc ms (Kn G M As)) (PostOf (Ke G post) mc ms (gA G)) := back_of (bytes := b) (maxL := maxL) (ret := ret) hM (Kn.blind G M As) hrc hrs hfr hR.2 hws hcw (fun a' U hW => word_at hW (Or.inl (by first | rfl | simp [Cond.onTables, Cond.keeps, Cond.steady])) hini)
  intro T hT X
  obtain ⟨v, vm₁, ⟨U', l2, c2, s2⟩, hW₁, X', ⟨g', mk, t, L', e1, e2, hq, h1', hL, h2', h3'⟩, stt⟩ := callS X Cc.1 (bytes := b) (maxL := maxL) (ret := ret) Cc.2.2.1 hl (Cc.2.2.2.1 _ hi) hini hcode hy hK rfl (h3.1.trans Cc.2.2.2.2.2.2.2.1.symm) (argsL := As) (rest := st) (g := F0 m pc ls (As.reverse ++ st)) (fun sig h => hn.trans (hlen sig h)) rfl (by show 2 * 0 + _ ≤ 16; omega) (by rw [Cc.2.1]; exact hd)
    (fun vm₁ hW₁ => ⟨hf.1, hf.2, Cc.kn hgX h1 h2 (T.setVm vm₁) hT hW₁⟩)
  dsimp only [Pt.U, Pt.locs, Pt.cells, Pt.slots] at X' e1 e2 h1' h2' h3' stt
  subst h1'; subst h2'; subst h3'
  exact ⟨v, (T.setVm vm₁).calling g' mk As.toArray, t, U', L', hT, X', hL, e1, e2, hq, stt⟩
end Wide
set_option maxHeartbeats 4000000 in
set_option maxRecDepth 100000 in
theorem law_go (l : Launch) (hfl : l.flags = flags0) {pp : Program} {ee : Env} {ss : State} {mm : MethodId} {ar : Array Value} {bw : List Frame} {mt : Method} {cd : Code} {G : gW} (C : Cx pp l ss mm ar mt cd G RL cL_law 8) (hgX : gX G ss ss.heap) {b L : Nat} {xs : Nat → Int32} (hX : va_X b L xs ss ss.heap) (hbl : b < ss.heap.size) (hbA : ¬ gA G b) (hL : L ≤ 4096) {Q : State → Prop} (fin : ∀ M2 cells slots lo, cells ≤ 600064 → slots ≤ 7301640 → V pp l ee room_1 ss mm ar bw mt cd G Q 8 M2 cells slots 360 lo [.int (nI 1)]) {M : Mem} : V pp l ee room_1 ss mm ar bw mt cd G Q 8 M 0 0 0 [(0, .ref b)] [] := by
  refine V.mark C (fun z hz h0 => ?_)
  refine r_new C (q := z) nl_L_10 hz (h0 z (Nat.le_refl z)) (va_up_self _ _ _) (Nat.le_of_ble_eq_true rfl) (Nat.le_of_ble_eq_true rfl) dL_law_0 ?_
  refine r_dup C dL_law_3 rfl ?_
  have hNB : NB tbAll z 1 [] [] (gS G 0) zI zL (mMk M z) (wMk (mMk M z) z 14 0) := NB.cell (M := mMk M z) (κ := 14) (T := tbAll) h0 ⟨rfl, rfl⟩
  refine r_callI C hgX ml_L_158 im_X11_init rfl (c_X11_init l hfl G _ (mMk M z) z hz hNB) rfl (Nat.le_of_ble_eq_true rfl) (rm_hR (Nat.le_of_ble_eq_true rfl) (Nat.le_of_ble_eq_true rfl)) (rm_hf (Nat.le_of_ble_eq_true rfl) (Nat.le_of_ble_eq_true rfl)) dL_law_4 rfl ?_
  intro v1 M1 hp1
  obtain ⟨hv1, hN1⟩ := hp1
  subst hv1
  have hW1 : WD τ0 G (fun k => z + k) M1 := start_w hN1
  have hz1 : ∀ a, z + 476 ≤ a → mK M1 a = 0 := hN1.2.1
  have hn1 : mN M1 (z + 476) = 1 := hN1.2.2.1
  clear hN1 hNB
  refine V.eSt (st' := [.ref z]) rfl ?_
  refine r_astore_n C (lo' := [(1, .ref z), (0, .ref b)]) dL_law_7 rfl (by decide) rfl ?_
  refine r_iconst C (v := nI 3) dL_law_8 (by decide) ?_
  refine r_newarr C (q := z + 476) 0 (by decide) rfl ac_int (by decide) (Nat.le_trans hz (Nat.le_add_right _ _)) (hz1 _ (Nat.le_refl _)) hn1 (Nat.le_of_ble_eq_true rfl) (Nat.le_of_ble_eq_true rfl) dL_law_9 ?_
  have kp : KP (fun _ => False) (fun _ => False) M1 (wMk M1 (z + 476) 20 3) := fun x hx => by
    have hxz : x < z + 476 := by
      apply Classical.byContradiction
      intro h
      exact hx (hz1 x (by omega))
    have a1 : x ≠ z + 476 := by omega
    have a2 : x ≠ z + 476 + 1 := by omega
    exact ⟨va_up_ne _ _ a1, (va_up_ne _ _ a2).trans (va_up_ne _ _ a1), fun _ => ⟨va_up_ne _ _ a1, va_up_ne _ _ a1⟩, fun _ => va_up_ne _ _ a1⟩
  have hlv : ∀ k, LV τ0 k → k < 476 := fun k h => by
    have u1 := u0 (k := 9) (i := 9) (by decide)
    have u2 := u0 (k := 44) (i := 44) (by decide)
    have u3 := u0 (k := 17) (i := 17) (by decide)
    have u4 := u0 (k := 51) (i := 51) (by decide)
    unfold LV at h
    omega
  have hO0 : OW τ0 G z (fun a_ => a_ = z + 476) (wMk M1 (z + 476) 20 3) := ⟨fun k => z + k, hW1.kp wf0 kp, rfl, fun a ha => by
    have e : mK (wMk M1 (z + 476) 20 3) a = 20 := by rw [ha]; exact va_up_self _ _ _
    exact ⟨by rw [e]; decide, by rw [e]; decide, fun k hk e2 => by have := hlv k hk; have e3 : a = z + k := e2; omega⟩⟩
  have h20 : mK (wMk M1 (z + 476) 20 3) (z + 476) = 20 := va_up_self _ _ _
  have h30 : mN (wMk M1 (z + 476) 20 3) (z + 476) = 3 := (va_up_ne _ _ (by omega)).trans (va_up_self _ _ _)
  have hi0 : mI (wMk M1 (z + 476) 20 3) (z + 476) = fun _ => 0 := va_up_self _ _ _
  have hnn : AN (wMk M1 (z + 476) 20 3) (z + 476) 0 0 0 := ⟨congrFun hi0 0, congrFun hi0 1, congrFun hi0 2⟩
  generalize wMk M1 (z + 476) 20 3 = M3 at hO0 h20 h30 hnn
  generalize hna : z + 476 = na at hO0 h20 h30 hnn
  clear hW1 hz1 hn1 kp hlv hi0 h0
  generalize z = q at hO0
  refine r_astore_n C (lo' := [(2, .ref na), (1, .ref q), (0, .ref b)]) dL_law_11 rfl (by decide) rfl ?_
  refine V.widen (k := 477) (n := 8462) (Nat.le_of_ble_eq_true rfl) (Nat.le_of_ble_eq_true rfl) ?_
  refine r_iconst C (v := nI 0) dL_law_12 (by decide) ?_
  refine r_istore_n C (lo' := [(3, .int (nI 0)), (2, .ref na), (1, .ref q), (0, .ref b)]) dL_law_13 rfl (by decide) rfl ?_
  have lp14 : ∀ (k14 : Nat) (My : Mem) (i : Nat) (τ : Mu) (hi3 : i ≤ 3) (hJ : IN0 i τ) (hOy : OW τ G q (fun a_ => a_ = na) My) (h20y : mK My na = 20) (h3y : mN My na = 3) (hny : AN My na i 0 0), 3 - i < k14 → V pp l ee room_1 ss mm ar bw mt cd G Q 8 My (477 + 15 * i) (8462 + 2947 * i) 14 [(0, .ref b), (1, .ref q), (2, .ref na), (3, .int (nI i))] [] := by
    intro k14
    induction k14 with
    | zero => intro My i τ hi3 hJ hOy h20y h3y hny hz14; exact absurd hz14 (Nat.not_lt_zero _)
    | succ k14 ih14 =>
      intro My i τ hi3 hJ hOy h20y h3y hny hz14
      obtain ⟨hw, hk⟩ := in0_ok hJ
      have had := hk.ad (show 10 ≤ 600 by omega)
      refine r_iload_n C 3 dL_law_14 rfl rfl ?_
      refine r_iconst C (v := nI 3) dL_law_15 (by decide) ?_
      refine r_icmp_geN C (t := 127) (by omega) (by omega) dL_law_16 (by decide) (fun c16 => ?_) (fun c16 => ?_)
      · skip
        have hie : i = 3 := by omega
        subst hie
        have hI0 := inv_0 hJ
        refine V.widen (k := 522) (n := 17303) (Nat.le_of_ble_eq_true rfl) (Nat.le_of_ble_eq_true rfl) ?_
        refine r_iconst C (v := nI 0) dL_law_127 (by decide) ?_
        refine r_istore_n C (lo' := [(3, .int (nI 0)), (0, .ref b), (1, .ref q), (2, .ref na)]) dL_law_128 rfl (by decide) rfl ?_
        have lp129 : ∀ (k129 : Nat) (Mx : Mem) (e : Nat) (τ : Mu) (n0 : Nat) (n1 : Nat) (n2 : Nat) (he : e ≤ 24) (hI : INV e τ n0 n1 n2) (hOx : OW τ G q (fun a_ => a_ = na) Mx) (h20x : mK Mx na = 20) (h3x : mN Mx na = 3) (hnx : AN Mx na n0 n1 n2), 24 - e < k129 → V pp l ee room_1 ss mm ar bw mt cd G Q 8 Mx (522 + 3080 * e) (17303 + 21373 * e) 129 [(0, .ref b), (1, .ref q), (2, .ref na), (3, .int (nI e))] [] := by
          intro k129
          induction k129 with
          | zero => intro Mx e τ n0 n1 n2 he hI hOx h20x h3x hnx hz129; exact absurd hz129 (Nat.not_lt_zero _)
          | succ k129 ih129 =>
            intro Mx e τ n0 n1 n2 he hI hOx h20x h3x hnx hz129
            obtain ⟨hw, hk, hask, hgn, h3n, hbn⟩ := inv_ok hI
            have had := hk.ad (show e + 10 ≤ 600 by omega)
            refine r_iload_n C 3 dL_law_129 rfl rfl ?_
            refine r_bipush C (v := nI 24) dL_law_130 (by decide) ?_
            refine r_icmp_geN C (t := 237) (by omega) (by omega) dL_law_132 (by decide) (fun c132 => ?_) (fun c132 => ?_)
            · skip
              have hee : e = 24 := by omega
              refine r_aload_n C 2 dL_law_237 rfl rfl ?_
              refine r_iconst C (v := nI 0) dL_law_238 (by decide) ?_
              refine r_ialoadN C h20x h3x (by omega) (by omega) dL_law_239 ?_
              refine V.ei (y := nI n0) (hnx.1) ?_
              refine r_iconst C (v := nI 3) dL_law_240 (by decide) ?_
              refine r_icmp_ltN C (t := 359) (by omega) (by omega) dL_law_241 (by decide) (fun c241 => ?_) (fun c241 => ?_)
              · exact absurd c241 (by omega)
              · skip
                refine r_aload_n C 1 dL_law_244 rfl rfl ?_
                refine r_aload_n C 0 dL_law_245 rfl rfl ?_
                refine r_iconst C (v := nI 2) dL_law_246 (by decide) ?_
                refine r_cell C hgX hfl hX hbl hbA hL (k := 2) (by omega) ml_L_159 (Nat.le_of_ble_eq_true rfl) (rm_hR (Nat.le_of_ble_eq_true rfl) (Nat.le_of_ble_eq_true rfl)) (rm_hf (by omega) (by omega)) dL_law_247 ?_
                intro y
                refine r_aload_n C 2 dL_law_250 rfl rfl ?_
                refine r_iconst C (v := nI 2) dL_law_251 (by decide) ?_
                refine r_ialoadN C h20x h3x (by omega) (by omega) dL_law_252 ?_
                refine V.ei (y := nI n2) (hnx.2.2) ?_
                refine r_callS C hgX ml_L_175 st_L_asks (c_L_asks l hfl G Mx τ hw had hask q (fun a_ => a_ = na) hOx y n2 hgn) rfl (Nat.le_of_ble_eq_true rfl) (rm_hR (Nat.le_of_ble_eq_true rfl) (Nat.le_of_ble_eq_true rfl)) (rm_hf (by omega) (by omega)) dL_law_253 rfl ?_
                rintro _ Mka ⟨rfl, hOka, hkka⟩
                refine V.eSt (st' := [.int (nI 1)]) rfl ?_
                refine r_if_eqN C (t := 359) (by omega) dL_law_256 (by decide) (fun c256 => ?_) (fun c256 => ?_)
                · exact absurd c256 (by decide)
                · skip
                  have h51 := hw.np.2
                  refine r_aload_n C 1 dL_law_259 rfl rfl ?_
                  refine r_bipush C (v := nI 6) dL_law_260 (by decide) ?_
                  refine r_iconst C (v := nI 0) dL_law_262 (by decide) ?_
                  refine r_iconst C (v := nI 0) dL_law_263 (by decide) ?_
                  refine r_iconst C (v := nI 0) dL_law_264 (by decide) ?_
                  refine r_iconst C (v := bI true) dL_law_265 (by decide) ?_
                  refine r_bipush C (v := nI 60) dL_law_266 (by decide) ?_
                  refine r_iconst C (v := nI 0) dL_law_268 (by decide) ?_
                  refine r_callH C hgX hl_contracts (c_L_contracts l hfl G Mka τ hw q (fun a_ => a_ = na) hOka had (nI 6) (nI 0) (nI 0) (nI 0) true (nI 60) (nI 0) (fun h9_ => hk.n6 (Nat.lt_of_le_of_ne hw.nc.2 h9_))) rfl (Nat.le_of_ble_eq_true rfl) (rm_hR (Nat.le_of_ble_eq_true rfl) (Nat.le_of_ble_eq_true rfl)) (rm_hf (by omega) (by omega)) dL_law_269 rfl ?_
                  intro v1 Mq1 hp1
                  obtain ⟨hv1, hO1⟩ := hp1.c1 (c3_1 (by rw [show rng (nI 6) 6 = false from by decide]; rfl))
                  subst hv1
                  refine V.eSt (st' := [.int (-2)]) rfl ?_
                  refine r_bipush C (v := (-2)) dL_law_272 (by decide) ?_
                  refine r_icmp_ne C (t := 359) dL_law_274 (by decide) (fun c274 => ?_) (fun c274 => ?_)
                  · exact absurd rfl c274
                  · skip
                    refine r_aload_n C 1 dL_law_277 rfl rfl ?_
                    refine r_iconst C (v := (-1)) dL_law_278 (by decide) ?_
                    refine r_iconst C (v := nI 0) dL_law_279 (by decide) ?_
                    refine r_callH C hgX hl_leaves (c_L_leaves l hfl G Mq1 τ hw q (fun a_ => a_ = na) hO1 had (-1) (nI 0)) rfl (Nat.le_of_ble_eq_true rfl) (rm_hR (Nat.le_of_ble_eq_true rfl) (Nat.le_of_ble_eq_true rfl)) (rm_hf (by omega) (by omega)) dL_law_280 rfl ?_
                    intro v2 Mq2 hp2
                    obtain ⟨hv2, hO2⟩ := hp2.c1 (c2_1 (by unfold isOfB; rw [show rng (-1) (un τ 9 9) = false from by unfold rng; exact decide_eq_false (fun h_ => absurd h_.1 (by decide))]; rfl))
                    subst hv2
                    refine V.eSt (st' := [.int (-2)]) rfl ?_
                    refine r_bipush C (v := (-2)) dL_law_283 (by decide) ?_
                    refine r_icmp_ne C (t := 359) dL_law_285 (by decide) (fun c285 => ?_) (fun c285 => ?_)
                    · exact absurd rfl c285
                    · skip
                      refine r_aload_n C 1 dL_law_288 rfl rfl ?_
                      refine r_iconst C (v := (-1)) dL_law_289 (by decide) ?_
                      refine r_iconst C (v := nI 0) dL_law_290 (by decide) ?_
                      refine r_callH C hgX hl_words (c_L_words l hfl G Mq2 τ hw q (fun a_ => a_ = na) hO2 had (-1) (nI 0)) rfl (Nat.le_of_ble_eq_true rfl) (rm_hR (Nat.le_of_ble_eq_true rfl) (Nat.le_of_ble_eq_true rfl)) (rm_hf (by omega) (by omega)) dL_law_291 rfl ?_
                      intro v3 Mq3 hp3
                      obtain ⟨hv3, hO3⟩ := hp3.c1 (c2_1 (by rw [show inB (-1) (lN 0) (lN 9) = false from by decide]; rfl))
                      subst hv3
                      refine V.eSt (st' := [.int (-3)]) rfl ?_
                      refine r_bipush C (v := (-3)) dL_law_294 (by decide) ?_
                      refine r_icmp_ne C (t := 359) dL_law_296 (by decide) (fun c296 => ?_) (fun c296 => ?_)
                      · exact absurd rfl c296
                      · skip
                        refine r_aload_n C 1 dL_law_299 rfl rfl ?_
                        refine r_bipush C (v := nI 6) dL_law_300 (by decide) ?_
                        refine r_iconst C (v := nI 0) dL_law_302 (by decide) ?_
                        refine r_callH C hgX hl_elements (c_L_elements l hfl G Mq3 τ hw q (fun a_ => a_ = na) hO3 had (nI 6) (nI 0)) rfl (Nat.le_of_ble_eq_true rfl) (rm_hR (Nat.le_of_ble_eq_true rfl) (Nat.le_of_ble_eq_true rfl)) (rm_hf (by omega) (by omega)) dL_law_303 rfl ?_
                        intro v4 Mq4 hp4
                        obtain ⟨hv4, hO4⟩ := hp4.c1 (c3_1 (by rw [show decide (nI 6 < nI 6) = false from by decide, Bool.and_false]))
                        subst hv4
                        refine V.eSt (st' := [.int (-2)]) rfl ?_
                        refine r_bipush C (v := (-2)) dL_law_306 (by decide) ?_
                        refine r_icmp_ne C (t := 359) dL_law_308 (by decide) (fun c308 => ?_) (fun c308 => ?_)
                        · exact absurd rfl c308
                        · skip
                          refine r_aload_n C 1 dL_law_311 rfl rfl ?_
                          refine r_bipush C (v := nI 6) dL_law_312 (by decide) ?_
                          refine r_iconst C (v := nI 0) dL_law_314 (by decide) ?_
                          refine r_iconst C (v := nI 0) dL_law_315 (by decide) ?_
                          refine r_iconst C (v := nI 1) dL_law_316 (by decide) ?_
                          refine r_iconst C (v := nI 1) dL_law_317 (by decide) ?_
                          refine r_iconst C (v := nI 0) dL_law_318 (by decide) ?_
                          refine r_callH C hgX hl_garnishes (c_L_garnishes l hfl G Mq4 τ hw q (fun a_ => a_ = na) hO4 had (nI 6) (nI 0) (nI 0) (nI 1) (nI 1) (nI 0)) rfl (Nat.le_of_ble_eq_true rfl) (rm_hR (Nat.le_of_ble_eq_true rfl) (Nat.le_of_ble_eq_true rfl)) (rm_hf (by omega) (by omega)) dL_law_319 rfl ?_
                          intro v5 Mq5 hp5
                          obtain ⟨hv5, hO5⟩ := hp5.c1 (c3_1 (by rw [show rng (nI 6) 6 = false from by decide]; rfl))
                          subst hv5
                          refine V.eSt (st' := [.int (-2)]) rfl ?_
                          refine r_bipush C (v := (-2)) dL_law_322 (by decide) ?_
                          refine r_icmp_ne C (t := 359) dL_law_324 (by decide) (fun c324 => ?_) (fun c324 => ?_)
                          · exact absurd rfl c324
                          · skip
                            refine r_aload_n C 1 dL_law_327 rfl rfl ?_
                            refine r_aload_n C 1 dL_law_328 rfl rfl ?_
                            refine rq_payments C hgX hfl hw had hO5 ml_L_76 (Nat.le_of_ble_eq_true rfl) (rm_hR (Nat.le_of_ble_eq_true rfl) (Nat.le_of_ble_eq_true rfl)) (rm_hf (by omega) (by omega)) dL_law_329 ?_
                            intro Mpp hOpp hkpp
                            refine r_callH C hgX hl_back (c_L_back l hfl G Mpp τ hw q (fun a_ => a_ = na) hOpp had (nI (un τ 51 51))) rfl (Nat.le_of_ble_eq_true rfl) (rm_hR (Nat.le_of_ble_eq_true rfl) (Nat.le_of_ble_eq_true rfl)) (rm_hf (by omega) (by omega)) dL_law_332 rfl ?_
                            intro v6 Mq6 hp6
                            obtain ⟨hv6, hO6⟩ := hp6.c1 (c2_1 (rng_no (by omega)))
                            subst hv6
                            refine V.eSt (st' := [.long (-2)]) rfl ?_
                            refine r_ldc2 C (v := (-2)) kl_L_48 dL_law_335 ?_
                            refine r_lcmp_ne C (t := 359) dL_law_338 dL_law_339 (by decide) (fun c339 => ?_) (fun c339 => ?_)
                            · exact absurd rfl c339
                            · skip
                              refine r_aload_n C 1 dL_law_342 rfl rfl ?_
                              refine r_iconst C (v := nI 0) dL_law_343 (by decide) ?_
                              refine r_iconst C (v := nI 0) dL_law_344 (by decide) ?_
                              refine r_callH C hgX hl_advances (c_L_advances l hfl G Mq6 τ hw q (fun a_ => a_ = na) hO6 had (nI 0) (nI 0)) rfl (Nat.le_of_ble_eq_true rfl) (rm_hR (Nat.le_of_ble_eq_true rfl) (Nat.le_of_ble_eq_true rfl)) (rm_hf (by omega) (by omega)) dL_law_345 rfl ?_
                              intro v7 Mq7 hp7
                              obtain ⟨hv7, hO7⟩ := hp7.c2 (c3_2 (by decide) (by decide))
                              subst hv7
                              refine V.eSt (st' := [.long (-3)]) rfl ?_
                              refine r_ldc2 C (v := (-3)) kl_L_50 dL_law_348 ?_
                              refine r_lcmp_ne C (t := 359) dL_law_351 dL_law_352 (by decide) (fun c352 => ?_) (fun c352 => ?_)
                              · exact absurd rfl c352
                              · skip
                                refine r_iconst C (v := nI 1) dL_law_355 (by decide) ?_
                                refine r_goto C (t := 360) dL_law_356 (by decide) ?_
                                exact fin _ _ _ _ (by omega) (by omega)
            · skip
              have he24 : e < 24 := by omega
              refine r_aload_n C 0 dL_law_135 rfl rfl ?_
              refine r_iconst C (v := nI 3) dL_law_136 (by decide) ?_
              refine r_iconst C (v := nI 2) dL_law_137 (by decide) ?_
              refine r_iload_n C 3 dL_law_138 rfl rfl ?_
              refine r_imulN C dL_law_139 ?_
              refine r_iaddN C dL_law_140 ?_
              refine r_cell C hgX hfl hX hbl hbA hL (k := 3 + 2 * e) (by omega) ml_L_159 (Nat.le_of_ble_eq_true rfl) (rm_hR (Nat.le_of_ble_eq_true rfl) (Nat.le_of_ble_eq_true rfl)) (rm_hf (by omega) (by omega)) dL_law_141 ?_
              intro x
              refine r_istore C (lo' := [(4, .int x), (0, .ref b), (1, .ref q), (2, .ref na), (3, .int (nI e))]) dL_law_144 (by decide) rfl ?_
              refine r_aload_n C 1 dL_law_146 rfl rfl ?_
              refine r_iconst C (v := nI 4) dL_law_147 (by decide) ?_
              refine r_iconst C (v := nI 2) dL_law_148 (by decide) ?_
              refine r_iload_n C 4 dL_law_149 rfl rfl ?_
              refine r_imulN C dL_law_150 ?_
              refine r_iaddN C dL_law_151 ?_
              refine r_cell C hgX hfl hX hbl hbA hL (k := 4 + 2 * e) (by omega) ml_L_159 (Nat.le_of_ble_eq_true rfl) (rm_hR (Nat.le_of_ble_eq_true rfl) (Nat.le_of_ble_eq_true rfl)) (rm_hf (by omega) (by omega)) dL_law_152 ?_
              intro y
              refine r_istore C (lo' := [(5, .int y), (4, .int x), (0, .ref b), (1, .ref q), (2, .ref na), (3, .int (nI e))]) dL_law_155 (by decide) rfl ?_
              refine r_aload_n C 3 dL_law_157 rfl rfl ?_
              refine r_callS C hgX ml_L_163 st_L_tell (c_L_tell l hfl G Mx τ hw had q (fun a_ => a_ = na) hOx) rfl (Nat.le_of_ble_eq_true rfl) (rm_hR (Nat.le_of_ble_eq_true rfl) (Nat.le_of_ble_eq_true rfl)) (rm_hf (by omega) (by omega)) dL_law_158 rfl ?_
              rintro _ Mz1 ⟨z1, rfl, h0z1, hOz1, hkz1, h20z1, h24z1, hvz1⟩
              refine V.eSt (st' := [.ref z1]) rfl ?_
              refine r_astore C (lo' := [(6, .ref z1), (5, .int y), (4, .int x), (0, .ref b), (1, .ref q), (2, .ref na), (3, .int (nI e))]) dL_law_161 (by decide) rfl ?_
              have hzn : z1 ≠ na := fun e_ => by rw [e_, h20x] at h0z1; exact absurd h0z1 (by decide)
              have hn20a := (hkz1 na rfl).1.trans h20x
              have hn3a := (hkz1 na rfl).2.1.trans h3x
              have hna := hnx.kf hkz1 rfl
              refine r_aload_n C 4 dL_law_163 rfl rfl ?_
              refine r_aload_n C 5 dL_law_164 rfl rfl ?_
              refine r_iload C 1 dL_law_165 rfl ?_
              refine r_iload C 2 dL_law_167 rfl ?_
              refine r_iconst C (v := nI 3) dL_law_169 (by decide) ?_
              refine r_ishr C dL_law_170 ?_
              refine r_bipush C (v := nI 14) dL_law_171 (by decide) ?_
              refine r_callS C hgX ml_L_79 st_L_low (c_L_low l hfl G Mz1 (x >>> ((nI 3) &&& 31)) 14 (by decide) (by decide)) rfl (Nat.le_of_ble_eq_true rfl) (rm_hR (Nat.le_of_ble_eq_true rfl) (Nat.le_of_ble_eq_true rfl)) (rm_hf (by omega) (by omega)) dL_law_173 rfl ?_
              rintro _ _ ⟨rfl, rfl⟩
              obtain ⟨kd, hkd, ekd⟩ : ∃ z_, z_ < 14 ∧ lwN (x >>> ((nI 3) &&& 31)) 14 = z_ := ⟨_, lwN_lt (by decide), rfl⟩
              rw [ekd]
              refine V.eSt (st' := [.int (nI kd), .int y, .ref na, .ref q]) rfl ?_
              refine r_callS C hgX ml_L_167 st_L_act (c_L_act l hfl G Mz1 τ hw (e + 10) hk (by omega) had q (fun a_ => a_ = na ∨ a_ = z1) hOz1 na n0 n1 n2 (Or.inl rfl) hn20a hn3a hna hbn y kd hkd) rfl (Nat.le_of_ble_eq_true rfl) (rm_hR (Nat.le_of_ble_eq_true rfl) (Nat.le_of_ble_eq_true rfl)) (rm_hf (by omega) (by omega)) dL_law_176 rfl ?_
              rintro _ M2 ⟨told, U, m0, m1, m2, rfl, hAR, hwU, hO2, hox, hn20b, hn3b, hnb⟩
              obtain ⟨hI2, hsm⟩ := inv_step hI (by omega) hAR
              have hkU := (inv_ok hI2).2.1
              have hadU := hkU.ad (show e + 1 + 10 ≤ 600 by omega)
              refine V.eSt (st' := [.int told]) rfl ?_
              refine r_istore C (lo' := [(7, .int told), (6, .ref z1), (5, .int y), (4, .int x), (0, .ref b), (1, .ref q), (2, .ref na), (3, .int (nI e))]) dL_law_179 (by decide) rfl ?_
              have jn208 : ∀ (Mj : Mem) (hOj : OW U G q (fun a_ => a_ = na) Mj) (h20j : mK Mj na = 20) (h3j : mN Mj na = 3) (hnj : AN Mj na m0 m1 m2), V pp l ee room_1 ss mm ar bw mt cd G Q 8 Mj (522 + 3080 * e + 59) (17303 + 21373 * e + 3247) 208 [(5, .int y), (4, .int x), (0, .ref b), (1, .ref q), (2, .ref na), (3, .int (nI e))] [] := by
                intro Mj hOj h20j h3j hnj
                refine r_iload C 1 dL_law_208 rfl ?_
                refine r_iconst C (v := nI 5) dL_law_210 (by decide) ?_
                refine r_callS C hgX ml_L_79 st_L_low (c_L_low l hfl G Mj x 5 (by decide) (by decide)) rfl (Nat.le_of_ble_eq_true rfl) (rm_hR (Nat.le_of_ble_eq_true rfl) (Nat.le_of_ble_eq_true rfl)) (rm_hf (by omega) (by omega)) dL_law_211 rfl ?_
                rintro _ _ ⟨rfl, rfl⟩
                obtain ⟨sel, hsel, esel⟩ : ∃ z_, z_ < 5 ∧ lwN x 5 = z_ := ⟨_, lwN_lt (by decide), rfl⟩
                rw [esel]
                refine V.eSt (st' := [.int (nI sel)]) rfl ?_
                refine r_if_neN C (t := 231) (by omega) dL_law_214 (by decide) (fun c214 => ?_) (fun c214 => ?_)
                · skip
                  refine r_iinc C (v := nI (e + 1)) (lo' := [(3, .int (nI (e + 1))), (5, .int y), (4, .int x), (0, .ref b), (1, .ref q), (2, .ref na)]) 5 dL_law_231 rfl (nI_addI e 1) (by decide) rfl ?_
                  refine V.widen (k := 522 + 3080 * (e + 1)) (n := 17303 + 21373 * (e + 1)) (by omega) (by omega) ?_
                  refine r_goto C (t := 129) dL_law_234 (by decide) ?_
                  refine V.sub [3, 4, 5, 0] (lo' := [(0, .ref b), (1, .ref q), (2, .ref na), (3, .int (nI (e + 1)))]) rfl ?_
                  exact ih129 Mj (e + 1) U m0 m1 m2 (by omega) hI2 hOj h20j h3j hnj (by omega)
                · skip
                  refine r_aload_n C 3 dL_law_217 rfl rfl ?_
                  refine r_iload C 0 dL_law_218 rfl ?_
                  refine r_aload_n C 4 dL_law_220 rfl rfl ?_
                  refine r_iconst C (v := nI 2) dL_law_221 (by decide) ?_
                  refine r_ialoadN C h20j h3j (by omega) (by omega) dL_law_222 ?_
                  refine V.ei (y := nI m2) (hnj.2.2) ?_
                  refine r_callS C hgX ml_L_175 st_L_asks (c_L_asks l hfl G Mj U hwU hadU (inv_ok hI2).2.2.1 q (fun a_ => a_ = na) hOj y m2 (inv_ok hI2).2.2.2.1) rfl (Nat.le_of_ble_eq_true rfl) (rm_hR (Nat.le_of_ble_eq_true rfl) (Nat.le_of_ble_eq_true rfl)) (rm_hf (by omega) (by omega)) dL_law_223 rfl ?_
                  rintro _ Mka ⟨rfl, hOka, hkka⟩
                  refine V.eSt (st' := [.int (nI 1)]) rfl ?_
                  refine r_if_neN C (t := 231) (by omega) dL_law_226 (by decide) (fun c226 => ?_) (fun c226 => ?_)
                  · skip
                    refine r_iinc C (v := nI (e + 1)) (lo' := [(3, .int (nI (e + 1))), (5, .int y), (4, .int x), (0, .ref b), (1, .ref q), (2, .ref na)]) 5 dL_law_231 rfl (nI_addI e 1) (by decide) rfl ?_
                    refine V.widen (k := 522 + 3080 * (e + 1)) (n := 17303 + 21373 * (e + 1)) (by omega) (by omega) ?_
                    refine r_goto C (t := 129) dL_law_234 (by decide) ?_
                    refine V.sub [3, 4, 5, 0] (lo' := [(0, .ref b), (1, .ref q), (2, .ref na), (3, .int (nI (e + 1)))]) rfl ?_
                    exact ih129 Mka (e + 1) U m0 m1 m2 (by omega) hI2 hOka ((hkka na rfl).1.trans h20j) ((hkka na rfl).2.1.trans h3j) (hnj.kf hkka rfl) (by omega)
                  · exact absurd c226 (by decide)
              refine r_iload C 0 dL_law_181 rfl ?_
              refine r_iconst C (v := (-1)) dL_law_183 (by decide) ?_
              refine r_icmp_ge C (t := 208) dL_law_184 (by decide) (fun c184 => ?_) (fun c184 => ?_)
              · skip
                refine V.sub [2, 3, 4, 5, 6, 7] (lo' := [(5, .int y), (4, .int x), (0, .ref b), (1, .ref q), (2, .ref na), (3, .int (nI e))]) rfl ?_
                refine V.widen (k := 522 + 3080 * e + 59) (n := 17303 + 21373 * e + 3247) (by omega) (by omega) ?_
                exact jn208 M2 (hO2.mono (fun a_ ha_ => Or.inl ha_)) hn20b hn3b hnb
              · skip
                refine r_iload C 0 dL_law_187 rfl ?_
                refine r_bipush C (v := (-9)) dL_law_189 (by decide) ?_
                refine r_icmp_le C (t := 208) dL_law_191 (by decide) (fun c191 => ?_) (fun c191 => ?_)
                · skip
                  refine V.sub [2, 3, 4, 5, 6, 7] (lo' := [(5, .int y), (4, .int x), (0, .ref b), (1, .ref q), (2, .ref na), (3, .int (nI e))]) rfl ?_
                  refine V.widen (k := 522 + 3080 * e + 59) (n := 17303 + 21373 * e + 3247) (by omega) (by omega) ?_
                  exact jn208 M2 (hO2.mono (fun a_ ha_ => Or.inl ha_)) hn20b hn3b hnb
                · skip
                  refine r_aload C 1 dL_law_194 rfl ?_
                  refine r_aload_n C 5 dL_law_196 rfl rfl ?_
                  refine r_callS C hgX ml_L_163 st_L_tell (c_L_tell l hfl G M2 U hwU hadU q (fun a_ => a_ = na ∨ a_ = z1) hO2) rfl (Nat.le_of_ble_eq_true rfl) (rm_hR (Nat.le_of_ble_eq_true rfl) (Nat.le_of_ble_eq_true rfl)) (rm_hf (by omega) (by omega)) dL_law_197 rfl ?_
                  rintro _ Mz2 ⟨z2, rfl, h0z2, hOz2, hkz2, h20z2, h24z2, hvz2⟩
                  refine V.eSt (st' := [.ref z2, .ref z1]) rfl ?_
                  refine r_callS C hgX ml_L_171 st_L_same (c_L_same l hfl G Mz2 z1 z2 ((hkz2 z1 (Or.inr rfl)).1.trans ((hox z1 (Or.inr rfl) hzn).1.trans h20z1)) ((hkz2 z1 (Or.inr rfl)).2.1.trans ((hox z1 (Or.inr rfl) hzn).2.1.trans h24z1)) h20z2 h24z2 (fun k_ hk_ => by rw [hvz2 k_ hk_, hsm ⟨Int32.not_le.mp c184, Int32.not_le.mp c191⟩ k_ hk_, ← hvz1 k_ hk_, (hkz2 z1 (Or.inr rfl)).2.2.1, (hox z1 (Or.inr rfl) hzn).2.2.1])) rfl (Nat.le_of_ble_eq_true rfl) (rm_hR (Nat.le_of_ble_eq_true rfl) (Nat.le_of_ble_eq_true rfl)) (rm_hf (by omega) (by omega)) dL_law_200 rfl ?_
                  rintro _ _ ⟨rfl, rfl⟩
                  refine V.eSt (st' := [.int (nI 1)]) rfl ?_
                  refine r_if_neN C (t := 208) (by omega) dL_law_203 (by decide) (fun c203 => ?_) (fun c203 => ?_)
                  · skip
                    refine V.sub [2, 3, 4, 5, 6, 7] (lo' := [(5, .int y), (4, .int x), (0, .ref b), (1, .ref q), (2, .ref na), (3, .int (nI e))]) rfl ?_
                    refine V.widen (k := 522 + 3080 * e + 59) (n := 17303 + 21373 * e + 3247) (by omega) (by omega) ?_
                    exact jn208 Mz2 (hOz2.mono (fun a_ ha_ => Or.inl (Or.inl ha_))) ((hkz2 na (Or.inl rfl)).1.trans hn20b) ((hkz2 na (Or.inl rfl)).2.1.trans hn3b) (AN.kf hnb hkz2 (Or.inl rfl))
                  · exact absurd c203 (by decide)
        refine V.sub [1, 2, 3, 0] (lo' := [(0, .ref b), (1, .ref q), (2, .ref na), (3, .int (nI 0))]) rfl ?_
        exact lp129 _ My 0 τ 3 0 0 (by omega) hI0 hOy h20y h3y hny (Nat.lt_succ_self _)
      · skip
        have hi3 : i < 3 := by omega
        refine r_aload_n C 0 dL_law_19 rfl rfl ?_
        refine r_iload_n C 3 dL_law_20 rfl rfl ?_
        refine r_cell C hgX hfl hX hbl hbA hL (k := i) (by omega) ml_L_159 (Nat.le_of_ble_eq_true rfl) (rm_hR (Nat.le_of_ble_eq_true rfl) (Nat.le_of_ble_eq_true rfl)) (rm_hf (by omega) (by omega)) dL_law_21 ?_
        intro y
        refine r_istore C (lo' := [(4, .int y), (0, .ref b), (1, .ref q), (2, .ref na), (3, .int (nI i))]) dL_law_24 (by decide) rfl ?_
        refine r_aload_n C 3 dL_law_26 rfl rfl ?_
        refine r_iconst C (v := nI 0) dL_law_27 (by decide) ?_
        refine r_dup2 C dL_law_28 rfl rfl ?_
        refine r_ialoadN C h20y h3y (by omega) (by omega) dL_law_29 ?_
        refine V.ei (y := nI i) (hny.1) ?_
        refine r_aload_n C 2 dL_law_30 rfl rfl ?_
        refine r_iload_n C 4 dL_law_31 rfl rfl ?_
        refine r_iload C 0 dL_law_32 rfl ?_
        refine r_iconst C (v := nI 3) dL_law_34 (by decide) ?_
        refine r_callS C hgX ml_L_79 st_L_low (c_L_low l hfl G My y 3 (by decide) (by decide)) rfl (Nat.le_of_ble_eq_true rfl) (rm_hR (Nat.le_of_ble_eq_true rfl) (Nat.le_of_ble_eq_true rfl)) (rm_hf (by omega) (by omega)) dL_law_35 rfl ?_
        rintro _ _ ⟨rfl, rfl⟩
        obtain ⟨lw8, hlw8, elw8⟩ : ∃ z_, z_ < 3 ∧ lwN y 3 = z_ := ⟨_, lwN_lt (by decide), rfl⟩
        rw [elw8]
        refine V.eSt (st' := [.int (nI lw8), .int (nI i), .ref q, .int (nI i), .int (nI 0), .ref na]) rfl ?_
        refine r_iload C 0 dL_law_38 rfl ?_
        refine r_iconst C (v := nI 2) dL_law_40 (by decide) ?_
        refine r_ishr C dL_law_41 ?_
        refine r_bipush C (v := nI 60) dL_law_42 (by decide) ?_
        refine r_callS C hgX ml_L_79 st_L_low (c_L_low l hfl G My (y >>> ((nI 2) &&& 31)) 60 (by decide) (by decide)) rfl (Nat.le_of_ble_eq_true rfl) (rm_hR (Nat.le_of_ble_eq_true rfl) (Nat.le_of_ble_eq_true rfl)) (rm_hf (by omega) (by omega)) dL_law_44 rfl ?_
        rintro _ _ ⟨rfl, rfl⟩
        obtain ⟨lw9, hlw9, elw9⟩ : ∃ z_, z_ < 60 ∧ lwN (y >>> ((nI 2) &&& 31)) 60 = z_ := ⟨_, lwN_lt (by decide), rfl⟩
        rw [elw9]
        refine V.eSt (st' := [.int (nI lw9), .int (nI lw8), .int (nI i), .ref q, .int (nI i), .int (nI 0), .ref na]) rfl ?_
        refine r_sipush C (v := nI 300) dL_law_47 (by decide) ?_
        refine r_iload C 0 dL_law_50 rfl ?_
        refine r_iconst C (v := nI 4) dL_law_52 (by decide) ?_
        refine r_ishr C dL_law_53 ?_
        refine r_sipush C (v := nI 400) dL_law_54 (by decide) ?_
        refine r_callS C hgX ml_L_79 st_L_low (c_L_low l hfl G My (y >>> ((nI 4) &&& 31)) 400 (by decide) (by decide)) rfl (Nat.le_of_ble_eq_true rfl) (rm_hR (Nat.le_of_ble_eq_true rfl) (Nat.le_of_ble_eq_true rfl)) (rm_hf (by omega) (by omega)) dL_law_57 rfl ?_
        rintro _ _ ⟨rfl, rfl⟩
        obtain ⟨lw10, hlw10, elw10⟩ : ∃ z_, z_ < 400 ∧ lwN (y >>> ((nI 4) &&& 31)) 400 = z_ := ⟨_, lwN_lt (by decide), rfl⟩
        rw [elw10]
        refine V.eSt (st' := [.int (nI lw10), .int (nI 300), .int (nI lw9), .int (nI lw8), .int (nI i), .ref q, .int (nI i), .int (nI 0), .ref na]) rfl ?_
        refine r_iaddN C dL_law_60 ?_
        refine r_iload C 0 dL_law_61 rfl ?_
        refine r_bipush C (v := nI 6) dL_law_63 (by decide) ?_
        refine r_ishr C dL_law_65 ?_
        refine r_iconst C (v := nI 2) dL_law_66 (by decide) ?_
        refine r_callS C hgX ml_L_79 st_L_low (c_L_low l hfl G My (y >>> ((nI 6) &&& 31)) 2 (by decide) (by decide)) rfl (Nat.le_of_ble_eq_true rfl) (rm_hR (Nat.le_of_ble_eq_true rfl) (Nat.le_of_ble_eq_true rfl)) (rm_hf (by omega) (by omega)) dL_law_67 rfl ?_
        rintro _ _ ⟨rfl, rfl⟩
        obtain ⟨lw11, hlw11, elw11⟩ : ∃ z_, z_ < 2 ∧ lwN (y >>> ((nI 6) &&& 31)) 2 = z_ := ⟨_, lwN_lt (by decide), rfl⟩
        rw [elw11]
        refine V.eSt (st' := [.int (nI lw11), .int (nI (300 + lw10)), .int (nI lw9), .int (nI lw8), .int (nI i), .ref q, .int (nI i), .int (nI 0), .ref na]) rfl ?_
        refine r_if_neN C (t := 77) (by omega) dL_law_70 (by decide) (fun c70 => ?_) (fun c70 => ?_)
        · skip
          refine r_iconst C (v := bI false) dL_law_77 (by decide) ?_
          refine r_sipush C (v := nI 300) dL_law_78 (by decide) ?_
          refine r_iload C 0 dL_law_81 rfl ?_
          refine r_bipush C (v := nI 7) dL_law_83 (by decide) ?_
          refine r_ishr C dL_law_85 ?_
          refine r_sipush C (v := nI 200) dL_law_86 (by decide) ?_
          refine r_callSw C hgX ml_L_79 st_L_low (c_L_low l hfl G My (y >>> ((nI 7) &&& 31)) 200 (by decide) (by decide)) rfl (Nat.le_of_ble_eq_true rfl) (rm_hR (Nat.le_of_ble_eq_true rfl) (Nat.le_of_ble_eq_true rfl)) (rm_hf (by omega) (by omega)) dL_law_89 rfl ?_
          rintro _ _ ⟨rfl, rfl⟩
          obtain ⟨lw12, hlw12, elw12⟩ : ∃ z_, z_ < 200 ∧ lwN (y >>> ((nI 7) &&& 31)) 200 = z_ := ⟨_, lwN_lt (by decide), rfl⟩
          rw [elw12]
          refine V.eSt (st' := [.int (nI lw12), .int (nI 300), .int (bI false), .int (nI (300 + lw10)), .int (nI lw9), .int (nI lw8), .int (nI i), .ref q, .int (nI i), .int (nI 0), .ref na]) rfl ?_
          refine r_iaddN C dL_law_92 ?_
          refine r_sipush C (v := nI 1000) dL_law_93 (by decide) ?_
          refine r_iload C 0 dL_law_96 rfl ?_
          refine r_iconst C (v := nI 3) dL_law_98 (by decide) ?_
          refine r_ishr C dL_law_99 ?_
          refine r_sipush C (v := nI 3000) dL_law_100 (by decide) ?_
          refine r_callSw C hgX ml_L_79 st_L_low (c_L_low l hfl G My (y >>> ((nI 3) &&& 31)) 3000 (by decide) (by decide)) rfl (Nat.le_of_ble_eq_true rfl) (rm_hR (Nat.le_of_ble_eq_true rfl) (Nat.le_of_ble_eq_true rfl)) (rm_hf (by omega) (by omega)) dL_law_103 rfl ?_
          rintro _ _ ⟨rfl, rfl⟩
          obtain ⟨lw13, hlw13, elw13⟩ : ∃ z_, z_ < 3000 ∧ lwN (y >>> ((nI 3) &&& 31)) 3000 = z_ := ⟨_, lwN_lt (by decide), rfl⟩
          rw [elw13]
          refine V.eSt (st' := [.int (nI lw13), .int (nI 1000), .int (nI (300 + lw12)), .int (bI false), .int (nI (300 + lw10)), .int (nI lw9), .int (nI lw8), .int (nI i), .ref q, .int (nI i), .int (nI 0), .ref na]) rfl ?_
          refine r_iaddN C dL_law_106 ?_
          refine r_callH C hgX hl_contracts (c_L_contracts l hfl G My τ hw q (fun a_ => a_ = na) hOy had (nI i) (nI lw8) (nI lw9) (nI (300 + lw10)) false (nI (300 + lw12)) (nI (1000 + lw13)) (fun h9_ => hk.n6 (Nat.lt_of_le_of_ne hw.nc.2 h9_))) rfl (Nat.le_of_ble_eq_true rfl) (rm_hR (Nat.le_of_ble_eq_true rfl) (Nat.le_of_ble_eq_true rfl)) (rm_hf (by omega) (by omega)) dL_law_107 rfl ?_
          intro v14 Mq14 hp14
          obtain ⟨told, U, hv14, hwr, hO14, hk14⟩ := WPo.i (ts := [(-2), (-3), (-4)]) hp14
          subst hv14
          obtain ⟨htold, hJ2⟩ := in0_step hJ hi3 hlw8 hlw9 hlw10 hlw12 hlw13 hwr
          subst htold
          have h20b := (hk14 na rfl).1.trans h20y
          have h3b := (hk14 na rfl).2.1.trans h3y
          have hnb := hny.kf hk14 rfl
          refine V.eSt (st' := [.int (nI i), .int (nI i), .int (nI 0), .ref na]) rfl ?_
          refine r_iload_n C 4 dL_law_110 rfl rfl ?_
          refine r_icmp_neN C (t := 118) (by omega) (by omega) dL_law_111 (by decide) (fun c111 => ?_) (fun c111 => ?_)
          · exact absurd rfl c111
          · skip
            refine r_iconst C (v := nI 1) dL_law_114 (by decide) ?_
            refine r_goto C (t := 119) dL_law_115 (by decide) ?_
            refine r_iaddN C dL_law_119 ?_
            refine r_iastoreN C h20b h3b (by decide) (by decide) dL_law_120 ?_
            refine V.widen (k := 477 + 15 * (i + 1)) (n := 8462 + 2947 * (i + 1)) (by omega) (by omega) ?_
            refine r_iinc C (v := nI (i + 1)) (lo' := [(3, .int (nI (i + 1))), (4, .int y), (0, .ref b), (1, .ref q), (2, .ref na)]) 4 dL_law_121 rfl (nI_addI i 1) (by decide) rfl ?_
            refine r_goto C (t := 14) dL_law_124 (by decide) ?_
            refine V.sub [2, 3, 4, 0] (lo' := [(0, .ref b), (1, .ref q), (2, .ref na), (3, .int (nI (i + 1)))]) rfl ?_
            exact ih14 (wI Mq14 na 0 (nI (i + 1))) (i + 1) U (by omega) hJ2 (hO14.wI (in0_ok hJ2).1 rfl) h20b h3b (hnb.w0 rfl) (by omega)
        · skip
          refine r_iconst C (v := bI true) dL_law_73 (by decide) ?_
          refine r_goto C (t := 78) dL_law_74 (by decide) ?_
          refine r_sipush C (v := nI 300) dL_law_78 (by decide) ?_
          refine r_iload C 0 dL_law_81 rfl ?_
          refine r_bipush C (v := nI 7) dL_law_83 (by decide) ?_
          refine r_ishr C dL_law_85 ?_
          refine r_sipush C (v := nI 200) dL_law_86 (by decide) ?_
          refine r_callSw C hgX ml_L_79 st_L_low (c_L_low l hfl G My (y >>> ((nI 7) &&& 31)) 200 (by decide) (by decide)) rfl (Nat.le_of_ble_eq_true rfl) (rm_hR (Nat.le_of_ble_eq_true rfl) (Nat.le_of_ble_eq_true rfl)) (rm_hf (by omega) (by omega)) dL_law_89 rfl ?_
          rintro _ _ ⟨rfl, rfl⟩
          obtain ⟨lw15, hlw15, elw15⟩ : ∃ z_, z_ < 200 ∧ lwN (y >>> ((nI 7) &&& 31)) 200 = z_ := ⟨_, lwN_lt (by decide), rfl⟩
          rw [elw15]
          refine V.eSt (st' := [.int (nI lw15), .int (nI 300), .int (bI true), .int (nI (300 + lw10)), .int (nI lw9), .int (nI lw8), .int (nI i), .ref q, .int (nI i), .int (nI 0), .ref na]) rfl ?_
          refine r_iaddN C dL_law_92 ?_
          refine r_sipush C (v := nI 1000) dL_law_93 (by decide) ?_
          refine r_iload C 0 dL_law_96 rfl ?_
          refine r_iconst C (v := nI 3) dL_law_98 (by decide) ?_
          refine r_ishr C dL_law_99 ?_
          refine r_sipush C (v := nI 3000) dL_law_100 (by decide) ?_
          refine r_callSw C hgX ml_L_79 st_L_low (c_L_low l hfl G My (y >>> ((nI 3) &&& 31)) 3000 (by decide) (by decide)) rfl (Nat.le_of_ble_eq_true rfl) (rm_hR (Nat.le_of_ble_eq_true rfl) (Nat.le_of_ble_eq_true rfl)) (rm_hf (by omega) (by omega)) dL_law_103 rfl ?_
          rintro _ _ ⟨rfl, rfl⟩
          obtain ⟨lw16, hlw16, elw16⟩ : ∃ z_, z_ < 3000 ∧ lwN (y >>> ((nI 3) &&& 31)) 3000 = z_ := ⟨_, lwN_lt (by decide), rfl⟩
          rw [elw16]
          refine V.eSt (st' := [.int (nI lw16), .int (nI 1000), .int (nI (300 + lw15)), .int (bI true), .int (nI (300 + lw10)), .int (nI lw9), .int (nI lw8), .int (nI i), .ref q, .int (nI i), .int (nI 0), .ref na]) rfl ?_
          refine r_iaddN C dL_law_106 ?_
          refine r_callH C hgX hl_contracts (c_L_contracts l hfl G My τ hw q (fun a_ => a_ = na) hOy had (nI i) (nI lw8) (nI lw9) (nI (300 + lw10)) true (nI (300 + lw15)) (nI (1000 + lw16)) (fun h9_ => hk.n6 (Nat.lt_of_le_of_ne hw.nc.2 h9_))) rfl (Nat.le_of_ble_eq_true rfl) (rm_hR (Nat.le_of_ble_eq_true rfl) (Nat.le_of_ble_eq_true rfl)) (rm_hf (by omega) (by omega)) dL_law_107 rfl ?_
          intro v17 Mq17 hp17
          obtain ⟨told, U, hv17, hwr, hO17, hk17⟩ := WPo.i (ts := [(-2), (-3), (-4)]) hp17
          subst hv17
          obtain ⟨htold, hJ2⟩ := in0_step hJ hi3 hlw8 hlw9 hlw10 hlw15 hlw16 hwr
          subst htold
          have h20b := (hk17 na rfl).1.trans h20y
          have h3b := (hk17 na rfl).2.1.trans h3y
          have hnb := hny.kf hk17 rfl
          refine V.eSt (st' := [.int (nI i), .int (nI i), .int (nI 0), .ref na]) rfl ?_
          refine r_iload_n C 4 dL_law_110 rfl rfl ?_
          refine r_icmp_neN C (t := 118) (by omega) (by omega) dL_law_111 (by decide) (fun c111 => ?_) (fun c111 => ?_)
          · exact absurd rfl c111
          · skip
            refine r_iconst C (v := nI 1) dL_law_114 (by decide) ?_
            refine r_goto C (t := 119) dL_law_115 (by decide) ?_
            refine r_iaddN C dL_law_119 ?_
            refine r_iastoreN C h20b h3b (by decide) (by decide) dL_law_120 ?_
            refine V.widen (k := 477 + 15 * (i + 1)) (n := 8462 + 2947 * (i + 1)) (by omega) (by omega) ?_
            refine r_iinc C (v := nI (i + 1)) (lo' := [(3, .int (nI (i + 1))), (4, .int y), (0, .ref b), (1, .ref q), (2, .ref na)]) 4 dL_law_121 rfl (nI_addI i 1) (by decide) rfl ?_
            refine r_goto C (t := 14) dL_law_124 (by decide) ?_
            refine V.sub [2, 3, 4, 0] (lo' := [(0, .ref b), (1, .ref q), (2, .ref na), (3, .int (nI (i + 1)))]) rfl ?_
            exact ih14 (wI Mq17 na 0 (nI (i + 1))) (i + 1) U (by omega) hJ2 (hO17.wI (in0_ok hJ2).1 rfl) h20b h3b (hnb.w0 rfl) (by omega)
  refine V.sub [3, 2, 1, 0] (lo' := [(0, .ref b), (1, .ref q), (2, .ref na), (3, .int (nI 0))]) rfl ?_
  exact lp14 _ M3 0 τ0 (by omega) in0_0 hO0 h20 h30 hnn (Nat.lt_succ_self _)
