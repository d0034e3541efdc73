/-! THE LAW: its cases, 26 to 33 -/
set_option maxHeartbeats 1000000 in
set_option maxRecDepth 100000 in
theorem lc_open (l : Launch) (hfl : l.flags = flags0) {p : Program} {e : Env} {s : State} {m : MethodId} {args : Array Value} {below : List Frame} {meth : Method} {c : Code} {G : gW} (C : Cx p l s m args meth c G RL cL_law 8) (hgX : gX G s s.heap) {b L : Nat} {xs : Nat → Int32} (hX : va_X b L xs s s.heap) (hbl : b < s.heap.size) (hbA : ¬ gA G b) (hL : L ≤ 4096) {i : Nat} (hi : i + 8 ≤ L) {τ : Mu} {α : Nat → Nat} {M : Mem} {q mb ao n9 : Nat} (hj : LJ τ G α M q mb ao) (hk : LK n9 τ) (hn9 : n9 ≤ 600) {cells slots : Nat} (hcs : cells ≤ 500000) (hss : slots ≤ 7000000) {Q : State → Prop} (kk : ∀ U be M2, LJ U G be M2 q mb ao → LK (n9 + 1) U → V p l e room_1 s m args below meth c G Q 8 M2 (cells + 20) (slots + 4000) 2691 [(0, .ref b), (1, .ref q), (2, .ref mb), (3, .ref ao), (4, .int (nI i))] []) : V p l e room_1 s m args below meth c G Q 8 M cells slots 2281 [(0, .ref b), (1, .ref q), (2, .ref mb), (3, .ref ao), (4, .int (nI i))] [] := by
  have hj0 := hj
  obtain ⟨hw, ⟨hws, hwt, hwb⟩, ha0, hmt, ⟨hao, hao1⟩, han, hmn, hom⟩ := hj0
  subst ha0
  refine r_aload_n C 1 dL_law_2281 rfl rfl ?_
  refine r_callV C hgX (ci := 13) ml_L_227 im_X11_open se_X11_open rfl rfl (hws.2.1.k 0 14 rfl) (c_X11_open l hfl G M τ hw α hws hwt hwb (hk.ad hn9)) rfl (Nat.le_of_ble_eq_true rfl) (rm_hR (Nat.le_of_ble_eq_true rfl) (Nat.le_of_ble_eq_true rfl)) (rm_hf (by omega) (by omega)) dL_law_2282 rfl ?_
  intro v1 M1 hpc
  have hlp := PC.lp (ao := ao) hpc
  have hv1 := hpc.2.1
  subst hv1
  have hmd := hj.mid hlp
  have hcc : (0 : Nat) = 0 := rfl
  refine V.eSt (st' := [.int (nI (un τ 46 46))]) rfl ?_
  refine r_aload_n C 2 dL_law_2285 rfl rfl ?_
  refine r_callV C hgX (ci := 14) ml_L_230 im_X12_open se_X12_open rfl rfl hmd.1.1 (c_X12_open l hfl G M1 mb τ hmd.1 hmd.2.1 hw hmd.2.2.1 hmd.2.2.2 ) rfl (Nat.le_of_ble_eq_true rfl) (rm_hR (Nat.le_of_ble_eq_true rfl) (Nat.le_of_ble_eq_true rfl)) (rm_hf (by omega) (by omega)) dL_law_2286 rfl ?_
  intro v2 M2 hpp0
  have hpp := PP.ex hcc hpp0
  clear hpp0
  obtain ⟨be, hj2, hlk⟩ := hj.step2 (n := n9 + 1) (fun _ => ⟨hw, hk.up⟩) hk.up hlp hpp
  obtain ⟨x2, hx2⟩ := hpp.2.2.2.2.2
  subst hx2
  refine V.eSt (st' := [.int x2, .int (nI (un τ 46 46))]) rfl ?_
  refine r_icmp_eq C (t := 2691) dL_law_2289 (by decide) (fun c2289 => ?_) (fun c2289 => ?_)
  · skip
    refine V.sub [0, 1, 2, 3, 4] (lo' := [(0, .ref b), (1, .ref (α 0)), (2, .ref mb), (3, .ref ao), (4, .int (nI i))]) rfl ?_
    refine V.widen (k := cells + 20) (n := slots + 4000) (by omega) (by omega) ?_
    exact kk _ be M2 hj2 hlk
  · exact absurd (so_i (hpp.2.2.2.2.1 rfl).1).symm c2289
set_option maxHeartbeats 1000000 in
set_option maxRecDepth 100000 in
theorem lc_close (l : Launch) (hfl : l.flags = flags0) {p : Program} {e : Env} {s : State} {m : MethodId} {args : Array Value} {below : List Frame} {meth : Method} {c : Code} {G : gW} (C : Cx p l s m args meth c G RL cL_law 8) (hgX : gX G s s.heap) {b L : Nat} {xs : Nat → Int32} (hX : va_X b L xs s s.heap) (hbl : b < s.heap.size) (hbA : ¬ gA G b) (hL : L ≤ 4096) {i : Nat} (hi : i + 8 ≤ L) {τ : Mu} {α : Nat → Nat} {M : Mem} {q mb ao n9 : Nat} (hj : LJ τ G α M q mb ao) (hk : LK n9 τ) (hn9 : n9 ≤ 600) {cells slots : Nat} (hcs : cells ≤ 500000) (hss : slots ≤ 7000000) {Q : State → Prop} (kk : ∀ U be M2, LJ U G be M2 q mb ao → LK (n9 + 1) U → V p l e room_1 s m args below meth c G Q 8 M2 (cells + 20) (slots + 4000) 2691 [(0, .ref b), (1, .ref q), (2, .ref mb), (3, .ref ao), (4, .int (nI i))] []) : V p l e room_1 s m args below meth c G Q 8 M cells slots 2294 [(0, .ref b), (1, .ref q), (2, .ref mb), (3, .ref ao), (4, .int (nI i))] [] := by
  have hj0 := hj
  obtain ⟨hw, ⟨hws, hwt, hwb⟩, ha0, hmt, ⟨hao, hao1⟩, han, hmn, hom⟩ := hj0
  subst ha0
  refine r_aload_n C 1 dL_law_2294 rfl rfl ?_
  refine r_aload_n C 3 dL_law_2295 rfl rfl ?_
  refine r_callH C hgX hl_close (c_L_close l hfl G M τ hw α hws hwt hwb (hk.ad hn9) hk.2.1 ao hao hao1 han (fun h_ => (lk_close hw hk hn9 h_).1)) rfl (Nat.le_of_ble_eq_true rfl) (rm_hR (Nat.le_of_ble_eq_true rfl) (Nat.le_of_ble_eq_true rfl)) (rm_hf (by omega) (by omega)) dL_law_2296 rfl ?_
  intro v1 M1 hlp0
  obtain ⟨cc, hcc, hlp, hv1⟩ := LPo.ex hlp0
  subst hv1
  clear hlp0
  have hc3 : cc ≤ 3 := by rw [hcc]; exact cd1_le _
  have hmd := hj.mid hlp
  refine V.eSt (st' := [.int (nI cc)]) rfl ?_
  refine r_istore C (lo' := [(5, .int (nI cc)), (0, .ref b), (1, .ref (α 0)), (2, .ref mb), (3, .ref ao), (4, .int (nI i))]) dL_law_2299 (by decide) rfl ?_
  refine r_aload_n C 3 dL_law_2301 rfl rfl ?_
  refine r_callV C hgX (ci := 14) ml_L_234 im_X12_close se_X12_close rfl rfl hmd.1.1 (c_X12_close l hfl G M1 mb τ hmd.1 hmd.2.1 hw hmd.2.2.1 hmd.2.2.2  hk.2.1) rfl (Nat.le_of_ble_eq_true rfl) (rm_hR (Nat.le_of_ble_eq_true rfl) (Nat.le_of_ble_eq_true rfl)) (rm_hf (by omega) (by omega)) dL_law_2302 rfl ?_
  intro v2 M2 hpp0
  have hpp := PP.ex hcc hpp0
  clear hpp0
  obtain ⟨be, hj2, hlk⟩ := hj.step2 (n := n9 + 1) (fun h_ => lk_close hw hk hn9 (hcc.symm.trans h_)) hk.up hlp hpp
  obtain ⟨x2, hx2⟩ := hpp.2.2.2.2.2
  subst hx2
  refine V.eSt (st' := [.int x2]) rfl ?_
  refine r_istore C (lo' := [(6, .int x2), (5, .int (nI cc)), (0, .ref b), (1, .ref (α 0)), (2, .ref mb), (3, .ref ao), (4, .int (nI i))]) dL_law_2305 (by decide) rfl ?_
  refine r_aload_n C 4 dL_law_2307 rfl rfl ?_
  refine r_callV C hgX (ci := 14) ml_L_138 im_X12_thrown se_X12_thrown rfl rfl hj2.2.2.2.1.1.1 (c_X12_thrown l hfl G M2 mb hj2.2.2.2.1.1) rfl (Nat.le_of_ble_eq_true rfl) (rm_hR (Nat.le_of_ble_eq_true rfl) (Nat.le_of_ble_eq_true rfl)) (rm_hf (by omega) (by omega)) dL_law_2308 rfl ?_
  intro v3 M3 h3
  obtain ⟨hv3, hM3⟩ := h3
  subst hv3
  subst hM3
  refine V.eSt (st' := [.int (nI cc)]) (congrArg (fun z_ => [Value.int z_]) hpp.1) ?_
  refine r_iload C 1 dL_law_2311 rfl ?_
  refine r_icmp_eqN C (t := 2318) (by omega) (by omega) dL_law_2313 (by decide) (fun c2313 => ?_) (fun c2313 => ?_)
  · skip
    refine r_iload C 1 dL_law_2318 rfl ?_
    refine r_if_neN C (t := 2335) (by omega) dL_law_2320 (by decide) (fun c2320 => ?_) (fun c2320 => ?_)
    · skip
      refine r_goto C (t := 2691) dL_law_2335 (by decide) ?_
      refine V.sub [2, 3, 4, 5, 6] (lo' := [(0, .ref b), (1, .ref (α 0)), (2, .ref mb), (3, .ref ao), (4, .int (nI i))]) rfl ?_
      refine V.widen (k := cells + 20) (n := slots + 4000) (by omega) (by omega) ?_
      exact kk _ be M2 hj2 hlk
    · skip
      refine r_aload_n C 5 dL_law_2323 rfl rfl ?_
      refine r_iconst C (v := nI 0) dL_law_2324 (by decide) ?_
      refine r_laloadN C hj2.2.2.2.2.1.1 hj2.2.2.2.2.1.2 (by omega) (by omega) dL_law_2325 ?_
      refine r_iload C 0 dL_law_2326 rfl ?_
      refine r_i2l C dL_law_2328 ?_
      have hA := hj.out hlp hpp c2320
      have hB := so_i (hpp.2.2.2.2.1 c2320).1
      refine r_lcmp_eq C (t := 2335) dL_law_2329 dL_law_2330 (by decide) (fun c2330 => ?_) (fun c2330 => ?_)
      · skip
        refine r_goto C (t := 2691) dL_law_2335 (by decide) ?_
        refine V.sub [2, 3, 4, 5, 6] (lo' := [(0, .ref b), (1, .ref (α 0)), (2, .ref mb), (3, .ref ao), (4, .int (nI i))]) rfl ?_
        refine V.widen (k := cells + 20) (n := slots + 4000) (by omega) (by omega) ?_
        exact kk _ be M2 hj2 hlk
      · exact absurd (by rw [hA, hB]) c2330
  · exact absurd rfl c2313
set_option maxHeartbeats 1000000 in
set_option maxRecDepth 100000 in
theorem lc_payments (l : Launch) (hfl : l.flags = flags0) {p : Program} {e : Env} {s : State} {m : MethodId} {args : Array Value} {below : List Frame} {meth : Method} {c : Code} {G : gW} (C : Cx p l s m args meth c G RL cL_law 8) (hgX : gX G s s.heap) {b L : Nat} {xs : Nat → Int32} (hX : va_X b L xs s s.heap) (hbl : b < s.heap.size) (hbA : ¬ gA G b) (hL : L ≤ 4096) {i : Nat} (hi : i + 8 ≤ L) {τ : Mu} {α : Nat → Nat} {M : Mem} {q mb ao n9 : Nat} (hj : LJ τ G α M q mb ao) (hk : LK n9 τ) (hn9 : n9 ≤ 600) {cells slots : Nat} (hcs : cells ≤ 500000) (hss : slots ≤ 7000000) {Q : State → Prop} (kk : ∀ U be M2, LJ U G be M2 q mb ao → LK (n9 + 1) U → V p l e room_1 s m args below meth c G Q 8 M2 (cells + 20) (slots + 4000) 2691 [(0, .ref b), (1, .ref q), (2, .ref mb), (3, .ref ao), (4, .int (nI i))] []) : V p l e room_1 s m args below meth c G Q 8 M cells slots 2338 [(0, .ref b), (1, .ref q), (2, .ref mb), (3, .ref ao), (4, .int (nI i))] [] := by
  have hj0 := hj
  obtain ⟨hw, ⟨hws, hwt, hwb⟩, ha0, hmt, ⟨hao, hao1⟩, han, hmn, hom⟩ := hj0
  subst ha0
  refine r_aload_n C 1 dL_law_2338 rfl rfl ?_
  refine r_callV C hgX (ci := 13) ml_L_235 im_X11_payments se_X11_payments rfl rfl (hws.2.1.k 0 14 rfl) (c_X11_payments l hfl G M τ hw α hws hwt hwb (hk.ad hn9)) rfl (Nat.le_of_ble_eq_true rfl) (rm_hR (Nat.le_of_ble_eq_true rfl) (Nat.le_of_ble_eq_true rfl)) (rm_hf (by omega) (by omega)) dL_law_2339 rfl ?_
  intro v1 M1 hpc
  have hlp := PC.lp (ao := ao) hpc
  have hv1 := hpc.2.1
  subst hv1
  have hmd := hj.mid hlp
  have hcc : (0 : Nat) = 0 := rfl
  refine V.eSt (st' := [.int (nI (un τ 51 51))]) rfl ?_
  refine r_aload_n C 2 dL_law_2342 rfl rfl ?_
  refine r_callV C hgX (ci := 14) ml_L_238 im_X12_payments se_X12_payments rfl rfl hmd.1.1 (c_X12_payments l hfl G M1 mb τ hmd.1 hmd.2.1 hw hmd.2.2.1 hmd.2.2.2 ) rfl (Nat.le_of_ble_eq_true rfl) (rm_hR (Nat.le_of_ble_eq_true rfl) (Nat.le_of_ble_eq_true rfl)) (rm_hf (by omega) (by omega)) dL_law_2343 rfl ?_
  intro v2 M2 hpp0
  have hpp := PP.ex hcc hpp0
  clear hpp0
  obtain ⟨be, hj2, hlk⟩ := hj.step2 (n := n9 + 1) (fun _ => ⟨hw, hk.up⟩) hk.up hlp hpp
  obtain ⟨x2, hx2⟩ := hpp.2.2.2.2.2
  subst hx2
  refine V.eSt (st' := [.int x2, .int (nI (un τ 51 51))]) rfl ?_
  refine r_icmp_eq C (t := 2691) dL_law_2346 (by decide) (fun c2346 => ?_) (fun c2346 => ?_)
  · skip
    refine V.sub [0, 1, 2, 3, 4] (lo' := [(0, .ref b), (1, .ref (α 0)), (2, .ref mb), (3, .ref ao), (4, .int (nI i))]) rfl ?_
    refine V.widen (k := cells + 20) (n := slots + 4000) (by omega) (by omega) ?_
    exact kk _ be M2 hj2 hlk
  · exact absurd (so_i (hpp.2.2.2.2.1 rfl).1).symm c2346
set_option maxHeartbeats 1000000 in
set_option maxRecDepth 100000 in
theorem lc_payment (l : Launch) (hfl : l.flags = flags0) {p : Program} {e : Env} {s : State} {m : MethodId} {args : Array Value} {below : List Frame} {meth : Method} {c : Code} {G : gW} (C : Cx p l s m args meth c G RL cL_law 8) (hgX : gX G s s.heap) {b L : Nat} {xs : Nat → Int32} (hX : va_X b L xs s s.heap) (hbl : b < s.heap.size) (hbA : ¬ gA G b) (hL : L ≤ 4096) {i : Nat} (hi : i + 8 ≤ L) {τ : Mu} {α : Nat → Nat} {M : Mem} {q mb ao n9 : Nat} (hj : LJ τ G α M q mb ao) (hk : LK n9 τ) (hn9 : n9 ≤ 600) {cells slots : Nat} (hcs : cells ≤ 500000) (hss : slots ≤ 7000000) {Q : State → Prop} (kk : ∀ U be M2, LJ U G be M2 q mb ao → LK (n9 + 1) U → V p l e room_1 s m args below meth c G Q 8 M2 (cells + 20) (slots + 4000) 2691 [(0, .ref b), (1, .ref q), (2, .ref mb), (3, .ref ao), (4, .int (nI i))] []) : V p l e room_1 s m args below meth c G Q 8 M cells slots 2351 [(0, .ref b), (1, .ref q), (2, .ref mb), (3, .ref ao), (4, .int (nI i))] [] := by
  have hj0 := hj
  obtain ⟨hw, ⟨hws, hwt, hwb⟩, ha0, hmt, ⟨hao, hao1⟩, han, hmn, hom⟩ := hj0
  subst ha0
  refine r_aload_n C 1 dL_law_2351 rfl rfl ?_
  refine r_aload_n C 0 dL_law_2352 rfl rfl ?_
  refine r_iload C 4 dL_law_2353 rfl ?_
  refine r_iconst C (v := nI 1) dL_law_2355 (by decide) ?_
  refine r_iaddN C dL_law_2356 ?_
  refine r_sld C hX hbl hbA hL (i := i + 1) (by omega) dL_law_2357 ?_
  refine r_aload_n C 0 dL_law_2358 rfl rfl ?_
  refine r_iload C 4 dL_law_2359 rfl ?_
  refine r_iconst C (v := nI 2) dL_law_2361 (by decide) ?_
  refine r_iaddN C dL_law_2362 ?_
  refine r_sld C hX hbl hbA hL (i := i + 2) (by omega) dL_law_2363 ?_
  refine r_aload_n C 3 dL_law_2364 rfl rfl ?_
  refine r_callH C hgX hl_payment (c_L_payment l hfl G M τ hw α hws hwt hwb (hk.ad hn9) (xs (i + 1)) (xs (i + 2)) ao hao hao1 han (fun _ => hw)) rfl (Nat.le_of_ble_eq_true rfl) (rm_hR (Nat.le_of_ble_eq_true rfl) (Nat.le_of_ble_eq_true rfl)) (rm_hf (by omega) (by omega)) dL_law_2365 rfl ?_
  intro v1 M1 hlp0
  obtain ⟨cc, hcc, hlp, hv1⟩ := LPo.ex hlp0
  subst hv1
  clear hlp0
  have hc3 : cc ≤ 3 := by rw [hcc]; exact cd2_le _ _
  have hmd := hj.mid hlp
  refine V.eSt (st' := [.int (nI cc)]) rfl ?_
  refine r_istore C (lo' := [(5, .int (nI cc)), (0, .ref b), (1, .ref (α 0)), (2, .ref mb), (3, .ref ao), (4, .int (nI i))]) dL_law_2368 (by decide) rfl ?_
  refine r_aload_n C 3 dL_law_2370 rfl rfl ?_
  refine r_aload_n C 1 dL_law_2371 rfl rfl ?_
  refine r_iload C 5 dL_law_2372 rfl ?_
  refine r_iconst C (v := nI 1) dL_law_2374 (by decide) ?_
  refine r_iaddN C dL_law_2375 ?_
  refine r_sld C hX hbl hbA hL (i := i + 1) (by omega) dL_law_2376 ?_
  refine r_aload_n C 1 dL_law_2377 rfl rfl ?_
  refine r_iload C 5 dL_law_2378 rfl ?_
  refine r_iconst C (v := nI 2) dL_law_2380 (by decide) ?_
  refine r_iaddN C dL_law_2381 ?_
  refine r_sld C hX hbl hbA hL (i := i + 2) (by omega) dL_law_2382 ?_
  refine r_callV C hgX (ci := 14) ml_L_241 im_X12_payment se_X12_payment rfl rfl hmd.1.1 (c_X12_payment l hfl G M1 mb τ hmd.1 hmd.2.1 hw hmd.2.2.1 hmd.2.2.2 (xs (i + 1)) (xs (i + 2))) rfl (Nat.le_of_ble_eq_true rfl) (rm_hR (Nat.le_of_ble_eq_true rfl) (Nat.le_of_ble_eq_true rfl)) (rm_hf (by omega) (by omega)) dL_law_2383 rfl ?_
  intro v2 M2 hpp0
  have hpp := PP.ex hcc hpp0
  clear hpp0
  obtain ⟨be, hj2, hlk⟩ := hj.step2 (n := n9 + 1) (fun _ => ⟨hw, hk.up⟩) hk.up hlp hpp
  obtain ⟨x2, hx2⟩ := hpp.2.2.2.2.2
  subst hx2
  refine V.eSt (st' := [.long x2]) rfl ?_
  refine r_lstore C (lo' := [(6, .long x2), (5, .int (nI cc)), (0, .ref b), (1, .ref (α 0)), (2, .ref mb), (3, .ref ao), (4, .int (nI i))]) dL_law_2386 (by decide) rfl ?_
  refine r_aload_n C 4 dL_law_2388 rfl rfl ?_
  refine r_callV C hgX (ci := 14) ml_L_138 im_X12_thrown se_X12_thrown rfl rfl hj2.2.2.2.1.1.1 (c_X12_thrown l hfl G M2 mb hj2.2.2.2.1.1) rfl (Nat.le_of_ble_eq_true rfl) (rm_hR (Nat.le_of_ble_eq_true rfl) (Nat.le_of_ble_eq_true rfl)) (rm_hf (by omega) (by omega)) dL_law_2389 rfl ?_
  intro v3 M3 h3
  obtain ⟨hv3, hM3⟩ := h3
  subst hv3
  subst hM3
  refine V.eSt (st' := [.int (nI cc)]) (congrArg (fun z_ => [Value.int z_]) hpp.1) ?_
  refine r_iload C 1 dL_law_2392 rfl ?_
  refine r_icmp_eqN C (t := 2399) (by omega) (by omega) dL_law_2394 (by decide) (fun c2394 => ?_) (fun c2394 => ?_)
  · skip
    refine r_iload C 1 dL_law_2399 rfl ?_
    refine r_if_neN C (t := 2415) (by omega) dL_law_2401 (by decide) (fun c2401 => ?_) (fun c2401 => ?_)
    · skip
      refine r_goto C (t := 2691) dL_law_2415 (by decide) ?_
      refine V.sub [2, 3, 4, 5, 6] (lo' := [(0, .ref b), (1, .ref (α 0)), (2, .ref mb), (3, .ref ao), (4, .int (nI i))]) rfl ?_
      refine V.widen (k := cells + 20) (n := slots + 4000) (by omega) (by omega) ?_
      exact kk _ be M2 hj2 hlk
    · skip
      refine r_aload_n C 5 dL_law_2404 rfl rfl ?_
      refine r_iconst C (v := nI 0) dL_law_2405 (by decide) ?_
      refine r_laloadN C hj2.2.2.2.2.1.1 hj2.2.2.2.2.1.2 (by omega) (by omega) dL_law_2406 ?_
      refine r_lload C 0 dL_law_2407 rfl ?_
      have hA := hj.out hlp hpp c2401
      have hB := so_l (hpp.2.2.2.2.1 c2401).1
      refine r_lcmp_eq C (t := 2415) dL_law_2409 dL_law_2410 (by decide) (fun c2410 => ?_) (fun c2410 => ?_)
      · skip
        refine r_goto C (t := 2691) dL_law_2415 (by decide) ?_
        refine V.sub [2, 3, 4, 5, 6] (lo' := [(0, .ref b), (1, .ref (α 0)), (2, .ref mb), (3, .ref ao), (4, .int (nI i))]) rfl ?_
        refine V.widen (k := cells + 20) (n := slots + 4000) (by omega) (by omega) ?_
        exact kk _ be M2 hj2 hlk
      · exact absurd (by rw [hA, hB]) c2410
  · exact absurd rfl c2394
set_option maxHeartbeats 1000000 in
set_option maxRecDepth 100000 in
theorem lc_comeBack (l : Launch) (hfl : l.flags = flags0) {p : Program} {e : Env} {s : State} {m : MethodId} {args : Array Value} {below : List Frame} {meth : Method} {c : Code} {G : gW} (C : Cx p l s m args meth c G RL cL_law 8) (hgX : gX G s s.heap) {b L : Nat} {xs : Nat → Int32} (hX : va_X b L xs s s.heap) (hbl : b < s.heap.size) (hbA : ¬ gA G b) (hL : L ≤ 4096) {i : Nat} (hi : i + 8 ≤ L) {τ : Mu} {α : Nat → Nat} {M : Mem} {q mb ao n9 : Nat} (hj : LJ τ G α M q mb ao) (hk : LK n9 τ) (hn9 : n9 ≤ 600) {cells slots : Nat} (hcs : cells ≤ 500000) (hss : slots ≤ 7000000) {Q : State → Prop} (kk : ∀ U be M2, LJ U G be M2 q mb ao → LK (n9 + 1) U → V p l e room_1 s m args below meth c G Q 8 M2 (cells + 20) (slots + 4000) 2691 [(0, .ref b), (1, .ref q), (2, .ref mb), (3, .ref ao), (4, .int (nI i))] []) : V p l e room_1 s m args below meth c G Q 8 M cells slots 2418 [(0, .ref b), (1, .ref q), (2, .ref mb), (3, .ref ao), (4, .int (nI i))] [] := by
  have hj0 := hj
  obtain ⟨hw, ⟨hws, hwt, hwb⟩, ha0, hmt, ⟨hao, hao1⟩, han, hmn, hom⟩ := hj0
  subst ha0
  refine r_aload_n C 1 dL_law_2418 rfl rfl ?_
  refine r_aload_n C 0 dL_law_2419 rfl rfl ?_
  refine r_iload C 4 dL_law_2420 rfl ?_
  refine r_iconst C (v := nI 1) dL_law_2422 (by decide) ?_
  refine r_iaddN C dL_law_2423 ?_
  refine r_sld C hX hbl hbA hL (i := i + 1) (by omega) dL_law_2424 ?_
  refine r_aload_n C 3 dL_law_2425 rfl rfl ?_
  refine r_callH C hgX hl_comeBack (c_L_comeBack l hfl G M τ hw α hws hwt hwb (hk.ad hn9) (xs (i + 1)) ao hao hao1 han (fun h_ => (lk_comeBack hw hk hn9 h_).1)) rfl (Nat.le_of_ble_eq_true rfl) (rm_hR (Nat.le_of_ble_eq_true rfl) (Nat.le_of_ble_eq_true rfl)) (rm_hf (by omega) (by omega)) dL_law_2426 rfl ?_
  intro v1 M1 hlp0
  obtain ⟨cc, hcc, hlp, hv1⟩ := LPo.ex hlp0
  subst hv1
  clear hlp0
  have hc3 : cc ≤ 3 := by rw [hcc]; exact cd2_le _ _
  have hmd := hj.mid hlp
  refine V.eSt (st' := [.int (nI cc)]) rfl ?_
  refine r_istore C (lo' := [(5, .int (nI cc)), (0, .ref b), (1, .ref (α 0)), (2, .ref mb), (3, .ref ao), (4, .int (nI i))]) dL_law_2429 (by decide) rfl ?_
  refine r_aload_n C 3 dL_law_2431 rfl rfl ?_
  refine r_aload_n C 1 dL_law_2432 rfl rfl ?_
  refine r_iload C 5 dL_law_2433 rfl ?_
  refine r_iconst C (v := nI 1) dL_law_2435 (by decide) ?_
  refine r_iaddN C dL_law_2436 ?_
  refine r_sld C hX hbl hbA hL (i := i + 1) (by omega) dL_law_2437 ?_
  refine r_callV C hgX (ci := 14) ml_L_244 im_X12_comeBack se_X12_comeBack rfl rfl hmd.1.1 (c_X12_comeBack l hfl G M1 mb τ hmd.1 hmd.2.1 hw hmd.2.2.1 hmd.2.2.2 (xs (i + 1))) rfl (Nat.le_of_ble_eq_true rfl) (rm_hR (Nat.le_of_ble_eq_true rfl) (Nat.le_of_ble_eq_true rfl)) (rm_hf (by omega) (by omega)) dL_law_2438 rfl ?_
  intro v2 M2 hpp0
  have hpp := PP.ex hcc hpp0
  clear hpp0
  obtain ⟨be, hj2, hlk⟩ := hj.step2 (n := n9 + 1) (fun h_ => lk_comeBack hw hk hn9 (hcc.symm.trans h_)) hk.up hlp hpp
  obtain ⟨x2, hx2⟩ := hpp.2.2.2.2.2
  subst hx2
  refine V.eSt (st' := [.long x2]) rfl ?_
  refine r_lstore C (lo' := [(6, .long x2), (5, .int (nI cc)), (0, .ref b), (1, .ref (α 0)), (2, .ref mb), (3, .ref ao), (4, .int (nI i))]) dL_law_2441 (by decide) rfl ?_
  refine r_aload_n C 4 dL_law_2443 rfl rfl ?_
  refine r_callV C hgX (ci := 14) ml_L_138 im_X12_thrown se_X12_thrown rfl rfl hj2.2.2.2.1.1.1 (c_X12_thrown l hfl G M2 mb hj2.2.2.2.1.1) rfl (Nat.le_of_ble_eq_true rfl) (rm_hR (Nat.le_of_ble_eq_true rfl) (Nat.le_of_ble_eq_true rfl)) (rm_hf (by omega) (by omega)) dL_law_2444 rfl ?_
  intro v3 M3 h3
  obtain ⟨hv3, hM3⟩ := h3
  subst hv3
  subst hM3
  refine V.eSt (st' := [.int (nI cc)]) (congrArg (fun z_ => [Value.int z_]) hpp.1) ?_
  refine r_iload C 1 dL_law_2447 rfl ?_
  refine r_icmp_eqN C (t := 2454) (by omega) (by omega) dL_law_2449 (by decide) (fun c2449 => ?_) (fun c2449 => ?_)
  · skip
    refine r_iload C 1 dL_law_2454 rfl ?_
    refine r_if_neN C (t := 2470) (by omega) dL_law_2456 (by decide) (fun c2456 => ?_) (fun c2456 => ?_)
    · skip
      refine r_goto C (t := 2691) dL_law_2470 (by decide) ?_
      refine V.sub [2, 3, 4, 5, 6] (lo' := [(0, .ref b), (1, .ref (α 0)), (2, .ref mb), (3, .ref ao), (4, .int (nI i))]) rfl ?_
      refine V.widen (k := cells + 20) (n := slots + 4000) (by omega) (by omega) ?_
      exact kk _ be M2 hj2 hlk
    · skip
      refine r_aload_n C 5 dL_law_2459 rfl rfl ?_
      refine r_iconst C (v := nI 0) dL_law_2460 (by decide) ?_
      refine r_laloadN C hj2.2.2.2.2.1.1 hj2.2.2.2.2.1.2 (by omega) (by omega) dL_law_2461 ?_
      refine r_lload C 0 dL_law_2462 rfl ?_
      have hA := hj.out hlp hpp c2456
      have hB := so_l (hpp.2.2.2.2.1 c2456).1
      refine r_lcmp_eq C (t := 2470) dL_law_2464 dL_law_2465 (by decide) (fun c2465 => ?_) (fun c2465 => ?_)
      · skip
        refine r_goto C (t := 2691) dL_law_2470 (by decide) ?_
        refine V.sub [2, 3, 4, 5, 6] (lo' := [(0, .ref b), (1, .ref (α 0)), (2, .ref mb), (3, .ref ao), (4, .int (nI i))]) rfl ?_
        refine V.widen (k := cells + 20) (n := slots + 4000) (by omega) (by omega) ?_
        exact kk _ be M2 hj2 hlk
      · exact absurd (by rw [hA, hB]) c2465
  · exact absurd rfl c2449
set_option maxHeartbeats 1000000 in
set_option maxRecDepth 100000 in
theorem lc_owed (l : Launch) (hfl : l.flags = flags0) {p : Program} {e : Env} {s : State} {m : MethodId} {args : Array Value} {below : List Frame} {meth : Method} {c : Code} {G : gW} (C : Cx p l s m args meth c G RL cL_law 8) (hgX : gX G s s.heap) {b L : Nat} {xs : Nat → Int32} (hX : va_X b L xs s s.heap) (hbl : b < s.heap.size) (hbA : ¬ gA G b) (hL : L ≤ 4096) {i : Nat} (hi : i + 8 ≤ L) {τ : Mu} {α : Nat → Nat} {M : Mem} {q mb ao n9 : Nat} (hj : LJ τ G α M q mb ao) (hk : LK n9 τ) (hn9 : n9 ≤ 600) {cells slots : Nat} (hcs : cells ≤ 500000) (hss : slots ≤ 7000000) {Q : State → Prop} (kk : ∀ U be M2, LJ U G be M2 q mb ao → LK (n9 + 1) U → V p l e room_1 s m args below meth c G Q 8 M2 (cells + 20) (slots + 4000) 2691 [(0, .ref b), (1, .ref q), (2, .ref mb), (3, .ref ao), (4, .int (nI i))] []) : V p l e room_1 s m args below meth c G Q 8 M cells slots 2473 [(0, .ref b), (1, .ref q), (2, .ref mb), (3, .ref ao), (4, .int (nI i))] [] := by
  have hj0 := hj
  obtain ⟨hw, ⟨hws, hwt, hwb⟩, ha0, hmt, ⟨hao, hao1⟩, han, hmn, hom⟩ := hj0
  subst ha0
  refine r_aload_n C 1 dL_law_2473 rfl rfl ?_
  refine r_aload_n C 0 dL_law_2474 rfl rfl ?_
  refine r_iload C 4 dL_law_2475 rfl ?_
  refine r_iconst C (v := nI 1) dL_law_2477 (by decide) ?_
  refine r_iaddN C dL_law_2478 ?_
  refine r_sld C hX hbl hbA hL (i := i + 1) (by omega) dL_law_2479 ?_
  refine r_aload_n C 3 dL_law_2480 rfl rfl ?_
  refine r_callH C hgX hl_owed (c_L_owed l hfl G M τ hw α hws hwt hwb (hk.ad hn9) (xs (i + 1)) ao hao hao1 han (fun _ => hw)) rfl (Nat.le_of_ble_eq_true rfl) (rm_hR (Nat.le_of_ble_eq_true rfl) (Nat.le_of_ble_eq_true rfl)) (rm_hf (by omega) (by omega)) dL_law_2481 rfl ?_
  intro v1 M1 hlp0
  obtain ⟨cc, hcc, hlp, hv1⟩ := LPo.ex hlp0
  subst hv1
  clear hlp0
  have hc3 : cc ≤ 3 := by rw [hcc]; exact cd1_le _
  have hmd := hj.mid hlp
  refine V.eSt (st' := [.int (nI cc)]) rfl ?_
  refine r_istore C (lo' := [(5, .int (nI cc)), (0, .ref b), (1, .ref (α 0)), (2, .ref mb), (3, .ref ao), (4, .int (nI i))]) dL_law_2484 (by decide) rfl ?_
  refine r_aload_n C 3 dL_law_2486 rfl rfl ?_
  refine r_aload_n C 1 dL_law_2487 rfl rfl ?_
  refine r_iload C 5 dL_law_2488 rfl ?_
  refine r_iconst C (v := nI 1) dL_law_2490 (by decide) ?_
  refine r_iaddN C dL_law_2491 ?_
  refine r_sld C hX hbl hbA hL (i := i + 1) (by omega) dL_law_2492 ?_
  refine r_callV C hgX (ci := 14) ml_L_247 im_X12_owed se_X12_owed rfl rfl hmd.1.1 (c_X12_owed l hfl G M1 mb τ hmd.1 hmd.2.1 hw hmd.2.2.1 hmd.2.2.2 (xs (i + 1))) rfl (Nat.le_of_ble_eq_true rfl) (rm_hR (Nat.le_of_ble_eq_true rfl) (Nat.le_of_ble_eq_true rfl)) (rm_hf (by omega) (by omega)) dL_law_2493 rfl ?_
  intro v2 M2 hpp0
  have hpp := PP.ex hcc hpp0
  clear hpp0
  obtain ⟨be, hj2, hlk⟩ := hj.step2 (n := n9 + 1) (fun _ => ⟨hw, hk.up⟩) hk.up hlp hpp
  obtain ⟨x2, hx2⟩ := hpp.2.2.2.2.2
  subst hx2
  refine V.eSt (st' := [.long x2]) rfl ?_
  refine r_lstore C (lo' := [(6, .long x2), (5, .int (nI cc)), (0, .ref b), (1, .ref (α 0)), (2, .ref mb), (3, .ref ao), (4, .int (nI i))]) dL_law_2496 (by decide) rfl ?_
  refine r_aload_n C 4 dL_law_2498 rfl rfl ?_
  refine r_callV C hgX (ci := 14) ml_L_138 im_X12_thrown se_X12_thrown rfl rfl hj2.2.2.2.1.1.1 (c_X12_thrown l hfl G M2 mb hj2.2.2.2.1.1) rfl (Nat.le_of_ble_eq_true rfl) (rm_hR (Nat.le_of_ble_eq_true rfl) (Nat.le_of_ble_eq_true rfl)) (rm_hf (by omega) (by omega)) dL_law_2499 rfl ?_
  intro v3 M3 h3
  obtain ⟨hv3, hM3⟩ := h3
  subst hv3
  subst hM3
  refine V.eSt (st' := [.int (nI cc)]) (congrArg (fun z_ => [Value.int z_]) hpp.1) ?_
  refine r_iload C 1 dL_law_2502 rfl ?_
  refine r_icmp_eqN C (t := 2509) (by omega) (by omega) dL_law_2504 (by decide) (fun c2504 => ?_) (fun c2504 => ?_)
  · skip
    refine r_iload C 1 dL_law_2509 rfl ?_
    refine r_if_neN C (t := 2525) (by omega) dL_law_2511 (by decide) (fun c2511 => ?_) (fun c2511 => ?_)
    · skip
      refine r_goto C (t := 2691) dL_law_2525 (by decide) ?_
      refine V.sub [2, 3, 4, 5, 6] (lo' := [(0, .ref b), (1, .ref (α 0)), (2, .ref mb), (3, .ref ao), (4, .int (nI i))]) rfl ?_
      refine V.widen (k := cells + 20) (n := slots + 4000) (by omega) (by omega) ?_
      exact kk _ be M2 hj2 hlk
    · skip
      refine r_aload_n C 5 dL_law_2514 rfl rfl ?_
      refine r_iconst C (v := nI 0) dL_law_2515 (by decide) ?_
      refine r_laloadN C hj2.2.2.2.2.1.1 hj2.2.2.2.2.1.2 (by omega) (by omega) dL_law_2516 ?_
      refine r_lload C 0 dL_law_2517 rfl ?_
      have hA := hj.out hlp hpp c2511
      have hB := so_l (hpp.2.2.2.2.1 c2511).1
      refine r_lcmp_eq C (t := 2525) dL_law_2519 dL_law_2520 (by decide) (fun c2520 => ?_) (fun c2520 => ?_)
      · skip
        refine r_goto C (t := 2691) dL_law_2525 (by decide) ?_
        refine V.sub [2, 3, 4, 5, 6] (lo' := [(0, .ref b), (1, .ref (α 0)), (2, .ref mb), (3, .ref ao), (4, .int (nI i))]) rfl ?_
        refine V.widen (k := cells + 20) (n := slots + 4000) (by omega) (by omega) ?_
        exact kk _ be M2 hj2 hlk
      · exact absurd (by rw [hA, hB]) c2520
  · exact absurd rfl c2504
set_option maxHeartbeats 1000000 in
set_option maxRecDepth 100000 in
theorem lc_filed (l : Launch) (hfl : l.flags = flags0) {p : Program} {e : Env} {s : State} {m : MethodId} {args : Array Value} {below : List Frame} {meth : Method} {c : Code} {G : gW} (C : Cx p l s m args meth c G RL cL_law 8) (hgX : gX G s s.heap) {b L : Nat} {xs : Nat → Int32} (hX : va_X b L xs s s.heap) (hbl : b < s.heap.size) (hbA : ¬ gA G b) (hL : L ≤ 4096) {i : Nat} (hi : i + 8 ≤ L) {τ : Mu} {α : Nat → Nat} {M : Mem} {q mb ao n9 : Nat} (hj : LJ τ G α M q mb ao) (hk : LK n9 τ) (hn9 : n9 ≤ 600) {cells slots : Nat} (hcs : cells ≤ 500000) (hss : slots ≤ 7000000) {Q : State → Prop} (kk : ∀ U be M2, LJ U G be M2 q mb ao → LK (n9 + 1) U → V p l e room_1 s m args below meth c G Q 8 M2 (cells + 20) (slots + 4000) 2691 [(0, .ref b), (1, .ref q), (2, .ref mb), (3, .ref ao), (4, .int (nI i))] []) : V p l e room_1 s m args below meth c G Q 8 M cells slots 2528 [(0, .ref b), (1, .ref q), (2, .ref mb), (3, .ref ao), (4, .int (nI i))] [] := by
  have hj0 := hj
  obtain ⟨hw, ⟨hws, hwt, hwb⟩, ha0, hmt, ⟨hao, hao1⟩, han, hmn, hom⟩ := hj0
  subst ha0
  by_cases hz : xs (i + 3) = 0
  · skip
    refine r_aload_n C 1 dL_law_2528 rfl rfl ?_
    refine r_aload_n C 0 dL_law_2529 rfl rfl ?_
    refine r_iload C 4 dL_law_2530 rfl ?_
    refine r_iconst C (v := nI 1) dL_law_2532 (by decide) ?_
    refine r_iaddN C dL_law_2533 ?_
    refine r_sld C hX hbl hbA hL (i := i + 1) (by omega) dL_law_2534 ?_
    refine r_aload_n C 0 dL_law_2535 rfl rfl ?_
    refine r_iload C 4 dL_law_2536 rfl ?_
    refine r_iconst C (v := nI 2) dL_law_2538 (by decide) ?_
    refine r_iaddN C dL_law_2539 ?_
    refine r_sld C hX hbl hbA hL (i := i + 2) (by omega) dL_law_2540 ?_
    refine r_aload_n C 0 dL_law_2541 rfl rfl ?_
    refine r_iload C 4 dL_law_2542 rfl ?_
    refine r_iconst C (v := nI 3) dL_law_2544 (by decide) ?_
    refine r_iaddN C dL_law_2545 ?_
    refine r_sld C hX hbl hbA hL (i := i + 3) (by omega) dL_law_2546 ?_
    refine r_if_eq C (t := 2554) dL_law_2547 (by decide) (fun c2547 => ?_) (fun c2547 => ?_)
    · skip
      refine r_iconst C (v := bI false) dL_law_2554 (by decide) ?_
      refine r_aload_n C 3 dL_law_2555 rfl rfl ?_
      refine r_callH C hgX hl_filed (c_L_filed l hfl G M τ hw α hws hwt hwb (hk.ad hn9) (xs (i + 1)) (xs (i + 2)) false ao hao hao1 han (fun _ => hw)) rfl (Nat.le_of_ble_eq_true rfl) (rm_hR (Nat.le_of_ble_eq_true rfl) (Nat.le_of_ble_eq_true rfl)) (rm_hf (by omega) (by omega)) dL_law_2556 rfl ?_
      intro v1 M1 hlp0
      obtain ⟨cc, hcc, hlp, hv1⟩ := LPo.ex hlp0
      subst hv1
      clear hlp0
      have hc3 : cc ≤ 3 := by rw [hcc]; exact cd1_le _
      have hmd := hj.mid hlp
      refine V.eSt (st' := [.int (nI cc)]) rfl ?_
      refine r_istore C (lo' := [(5, .int (nI cc)), (0, .ref b), (1, .ref (α 0)), (2, .ref mb), (3, .ref ao), (4, .int (nI i))]) dL_law_2559 (by decide) rfl ?_
      refine r_aload_n C 3 dL_law_2561 rfl rfl ?_
      refine r_aload_n C 1 dL_law_2562 rfl rfl ?_
      refine r_iload C 5 dL_law_2563 rfl ?_
      refine r_iconst C (v := nI 1) dL_law_2565 (by decide) ?_
      refine r_iaddN C dL_law_2566 ?_
      refine r_sld C hX hbl hbA hL (i := i + 1) (by omega) dL_law_2567 ?_
      refine r_aload_n C 1 dL_law_2568 rfl rfl ?_
      refine r_iload C 5 dL_law_2569 rfl ?_
      refine r_iconst C (v := nI 2) dL_law_2571 (by decide) ?_
      refine r_iaddN C dL_law_2572 ?_
      refine r_sld C hX hbl hbA hL (i := i + 2) (by omega) dL_law_2573 ?_
      refine r_aload_n C 1 dL_law_2574 rfl rfl ?_
      refine r_iload C 5 dL_law_2575 rfl ?_
      refine r_iconst C (v := nI 3) dL_law_2577 (by decide) ?_
      refine r_iaddN C dL_law_2578 ?_
      refine r_sld C hX hbl hbA hL (i := i + 3) (by omega) dL_law_2579 ?_
      refine r_if_eq C (t := 2587) dL_law_2580 (by decide) (fun c2580 => ?_) (fun c2580 => ?_)
      · skip
        refine r_iconst C (v := bI false) dL_law_2587 (by decide) ?_
        refine r_callV C hgX (ci := 14) ml_L_251 im_X12_filed se_X12_filed rfl rfl hmd.1.1 (c_X12_filed l hfl G M1 mb τ hmd.1 hmd.2.1 hw hmd.2.2.1 hmd.2.2.2 (xs (i + 1)) (xs (i + 2)) false) rfl (Nat.le_of_ble_eq_true rfl) (rm_hR (Nat.le_of_ble_eq_true rfl) (Nat.le_of_ble_eq_true rfl)) (rm_hf (by omega) (by omega)) dL_law_2588 rfl ?_
        intro v2 M2 hpp0
        have hpp := PP.ex hcc hpp0
        clear hpp0
        obtain ⟨be, hj2, hlk⟩ := hj.step2 (n := n9 + 1) (fun _ => ⟨hw, hk.up⟩) hk.up hlp hpp
        obtain ⟨x2, hx2⟩ := hpp.2.2.2.2.2
        subst hx2
        refine V.eSt (st' := [.long x2]) rfl ?_
        refine r_lstore C (lo' := [(6, .long x2), (5, .int (nI cc)), (0, .ref b), (1, .ref (α 0)), (2, .ref mb), (3, .ref ao), (4, .int (nI i))]) dL_law_2591 (by decide) rfl ?_
        refine r_aload_n C 4 dL_law_2593 rfl rfl ?_
        refine r_callV C hgX (ci := 14) ml_L_138 im_X12_thrown se_X12_thrown rfl rfl hj2.2.2.2.1.1.1 (c_X12_thrown l hfl G M2 mb hj2.2.2.2.1.1) rfl (Nat.le_of_ble_eq_true rfl) (rm_hR (Nat.le_of_ble_eq_true rfl) (Nat.le_of_ble_eq_true rfl)) (rm_hf (by omega) (by omega)) dL_law_2594 rfl ?_
        intro v3 M3 h3
        obtain ⟨hv3, hM3⟩ := h3
        subst hv3
        subst hM3
        refine V.eSt (st' := [.int (nI cc)]) (congrArg (fun z_ => [Value.int z_]) hpp.1) ?_
        refine r_iload C 1 dL_law_2597 rfl ?_
        refine r_icmp_eqN C (t := 2604) (by omega) (by omega) dL_law_2599 (by decide) (fun c2599 => ?_) (fun c2599 => ?_)
        · skip
          refine r_iload C 1 dL_law_2604 rfl ?_
          refine r_if_neN C (t := 2620) (by omega) dL_law_2606 (by decide) (fun c2606 => ?_) (fun c2606 => ?_)
          · skip
            refine r_goto C (t := 2691) dL_law_2620 (by decide) ?_
            refine V.sub [2, 3, 4, 5, 6] (lo' := [(0, .ref b), (1, .ref (α 0)), (2, .ref mb), (3, .ref ao), (4, .int (nI i))]) rfl ?_
            refine V.widen (k := cells + 20) (n := slots + 4000) (by omega) (by omega) ?_
            exact kk _ be M2 hj2 hlk
          · skip
            refine r_aload_n C 5 dL_law_2609 rfl rfl ?_
            refine r_iconst C (v := nI 0) dL_law_2610 (by decide) ?_
            refine r_laloadN C hj2.2.2.2.2.1.1 hj2.2.2.2.2.1.2 (by omega) (by omega) dL_law_2611 ?_
            refine r_lload C 0 dL_law_2612 rfl ?_
            have hA := hj.out hlp hpp c2606
            have hB := so_l (hpp.2.2.2.2.1 c2606).1
            refine r_lcmp_eq C (t := 2620) dL_law_2614 dL_law_2615 (by decide) (fun c2615 => ?_) (fun c2615 => ?_)
            · skip
              refine r_goto C (t := 2691) dL_law_2620 (by decide) ?_
              refine V.sub [2, 3, 4, 5, 6] (lo' := [(0, .ref b), (1, .ref (α 0)), (2, .ref mb), (3, .ref ao), (4, .int (nI i))]) rfl ?_
              refine V.widen (k := cells + 20) (n := slots + 4000) (by omega) (by omega) ?_
              exact kk _ be M2 hj2 hlk
            · exact absurd (by rw [hA, hB]) c2615
        · exact absurd rfl c2599
      · exact absurd hz c2580
    · exact absurd hz c2547
  · skip
    refine r_aload_n C 1 dL_law_2528 rfl rfl ?_
    refine r_aload_n C 0 dL_law_2529 rfl rfl ?_
    refine r_iload C 4 dL_law_2530 rfl ?_
    refine r_iconst C (v := nI 1) dL_law_2532 (by decide) ?_
    refine r_iaddN C dL_law_2533 ?_
    refine r_sld C hX hbl hbA hL (i := i + 1) (by omega) dL_law_2534 ?_
    refine r_aload_n C 0 dL_law_2535 rfl rfl ?_
    refine r_iload C 4 dL_law_2536 rfl ?_
    refine r_iconst C (v := nI 2) dL_law_2538 (by decide) ?_
    refine r_iaddN C dL_law_2539 ?_
    refine r_sld C hX hbl hbA hL (i := i + 2) (by omega) dL_law_2540 ?_
    refine r_aload_n C 0 dL_law_2541 rfl rfl ?_
    refine r_iload C 4 dL_law_2542 rfl ?_
    refine r_iconst C (v := nI 3) dL_law_2544 (by decide) ?_
    refine r_iaddN C dL_law_2545 ?_
    refine r_sld C hX hbl hbA hL (i := i + 3) (by omega) dL_law_2546 ?_
    refine r_if_eq C (t := 2554) dL_law_2547 (by decide) (fun c2547 => ?_) (fun c2547 => ?_)
    · exact absurd c2547 hz
    · skip
      refine r_iconst C (v := bI true) dL_law_2550 (by decide) ?_
      refine r_goto C (t := 2555) dL_law_2551 (by decide) ?_
      refine r_aload_n C 3 dL_law_2555 rfl rfl ?_
      refine r_callH C hgX hl_filed (c_L_filed l hfl G M τ hw α hws hwt hwb (hk.ad hn9) (xs (i + 1)) (xs (i + 2)) true ao hao hao1 han (fun _ => hw)) rfl (Nat.le_of_ble_eq_true rfl) (rm_hR (Nat.le_of_ble_eq_true rfl) (Nat.le_of_ble_eq_true rfl)) (rm_hf (by omega) (by omega)) dL_law_2556 rfl ?_
      intro v1 M1 hlp0
      obtain ⟨cc, hcc, hlp, hv1⟩ := LPo.ex hlp0
      subst hv1
      clear hlp0
      have hc3 : cc ≤ 3 := by rw [hcc]; exact cd1_le _
      have hmd := hj.mid hlp
      refine V.eSt (st' := [.int (nI cc)]) rfl ?_
      refine r_istore C (lo' := [(5, .int (nI cc)), (0, .ref b), (1, .ref (α 0)), (2, .ref mb), (3, .ref ao), (4, .int (nI i))]) dL_law_2559 (by decide) rfl ?_
      refine r_aload_n C 3 dL_law_2561 rfl rfl ?_
      refine r_aload_n C 1 dL_law_2562 rfl rfl ?_
      refine r_iload C 5 dL_law_2563 rfl ?_
      refine r_iconst C (v := nI 1) dL_law_2565 (by decide) ?_
      refine r_iaddN C dL_law_2566 ?_
      refine r_sld C hX hbl hbA hL (i := i + 1) (by omega) dL_law_2567 ?_
      refine r_aload_n C 1 dL_law_2568 rfl rfl ?_
      refine r_iload C 5 dL_law_2569 rfl ?_
      refine r_iconst C (v := nI 2) dL_law_2571 (by decide) ?_
      refine r_iaddN C dL_law_2572 ?_
      refine r_sld C hX hbl hbA hL (i := i + 2) (by omega) dL_law_2573 ?_
      refine r_aload_n C 1 dL_law_2574 rfl rfl ?_
      refine r_iload C 5 dL_law_2575 rfl ?_
      refine r_iconst C (v := nI 3) dL_law_2577 (by decide) ?_
      refine r_iaddN C dL_law_2578 ?_
      refine r_sld C hX hbl hbA hL (i := i + 3) (by omega) dL_law_2579 ?_
      refine r_if_eq C (t := 2587) dL_law_2580 (by decide) (fun c2580 => ?_) (fun c2580 => ?_)
      · exact absurd c2580 hz
      · skip
        refine r_iconst C (v := bI true) dL_law_2583 (by decide) ?_
        refine r_goto C (t := 2588) dL_law_2584 (by decide) ?_
        refine r_callV C hgX (ci := 14) ml_L_251 im_X12_filed se_X12_filed rfl rfl hmd.1.1 (c_X12_filed l hfl G M1 mb τ hmd.1 hmd.2.1 hw hmd.2.2.1 hmd.2.2.2 (xs (i + 1)) (xs (i + 2)) true) rfl (Nat.le_of_ble_eq_true rfl) (rm_hR (Nat.le_of_ble_eq_true rfl) (Nat.le_of_ble_eq_true rfl)) (rm_hf (by omega) (by omega)) dL_law_2588 rfl ?_
        intro v2 M2 hpp0
        have hpp := PP.ex hcc hpp0
        clear hpp0
        obtain ⟨be, hj2, hlk⟩ := hj.step2 (n := n9 + 1) (fun _ => ⟨hw, hk.up⟩) hk.up hlp hpp
        obtain ⟨x2, hx2⟩ := hpp.2.2.2.2.2
        subst hx2
        refine V.eSt (st' := [.long x2]) rfl ?_
        refine r_lstore C (lo' := [(6, .long x2), (5, .int (nI cc)), (0, .ref b), (1, .ref (α 0)), (2, .ref mb), (3, .ref ao), (4, .int (nI i))]) dL_law_2591 (by decide) rfl ?_
        refine r_aload_n C 4 dL_law_2593 rfl rfl ?_
        refine r_callV C hgX (ci := 14) ml_L_138 im_X12_thrown se_X12_thrown rfl rfl hj2.2.2.2.1.1.1 (c_X12_thrown l hfl G M2 mb hj2.2.2.2.1.1) rfl (Nat.le_of_ble_eq_true rfl) (rm_hR (Nat.le_of_ble_eq_true rfl) (Nat.le_of_ble_eq_true rfl)) (rm_hf (by omega) (by omega)) dL_law_2594 rfl ?_
        intro v3 M3 h3
        obtain ⟨hv3, hM3⟩ := h3
        subst hv3
        subst hM3
        refine V.eSt (st' := [.int (nI cc)]) (congrArg (fun z_ => [Value.int z_]) hpp.1) ?_
        refine r_iload C 1 dL_law_2597 rfl ?_
        refine r_icmp_eqN C (t := 2604) (by omega) (by omega) dL_law_2599 (by decide) (fun c2599 => ?_) (fun c2599 => ?_)
        · skip
          refine r_iload C 1 dL_law_2604 rfl ?_
          refine r_if_neN C (t := 2620) (by omega) dL_law_2606 (by decide) (fun c2606 => ?_) (fun c2606 => ?_)
          · skip
            refine r_goto C (t := 2691) dL_law_2620 (by decide) ?_
            refine V.sub [2, 3, 4, 5, 6] (lo' := [(0, .ref b), (1, .ref (α 0)), (2, .ref mb), (3, .ref ao), (4, .int (nI i))]) rfl ?_
            refine V.widen (k := cells + 20) (n := slots + 4000) (by omega) (by omega) ?_
            exact kk _ be M2 hj2 hlk
          · skip
            refine r_aload_n C 5 dL_law_2609 rfl rfl ?_
            refine r_iconst C (v := nI 0) dL_law_2610 (by decide) ?_
            refine r_laloadN C hj2.2.2.2.2.1.1 hj2.2.2.2.2.1.2 (by omega) (by omega) dL_law_2611 ?_
            refine r_lload C 0 dL_law_2612 rfl ?_
            have hA := hj.out hlp hpp c2606
            have hB := so_l (hpp.2.2.2.2.1 c2606).1
            refine r_lcmp_eq C (t := 2620) dL_law_2614 dL_law_2615 (by decide) (fun c2615 => ?_) (fun c2615 => ?_)
            · skip
              refine r_goto C (t := 2691) dL_law_2620 (by decide) ?_
              refine V.sub [2, 3, 4, 5, 6] (lo' := [(0, .ref b), (1, .ref (α 0)), (2, .ref mb), (3, .ref ao), (4, .int (nI i))]) rfl ?_
              refine V.widen (k := cells + 20) (n := slots + 4000) (by omega) (by omega) ?_
              exact kk _ be M2 hj2 hlk
            · exact absurd (by rw [hA, hB]) c2615
        · exact absurd rfl c2599
set_option maxHeartbeats 1000000 in
set_option maxRecDepth 100000 in
theorem lc_corrections (l : Launch) (hfl : l.flags = flags0) {p : Program} {e : Env} {s : State} {m : MethodId} {args : Array Value} {below : List Frame} {meth : Method} {c : Code} {G : gW} (C : Cx p l s m args meth c G RL cL_law 8) (hgX : gX G s s.heap) {b L : Nat} {xs : Nat → Int32} (hX : va_X b L xs s s.heap) (hbl : b < s.heap.size) (hbA : ¬ gA G b) (hL : L ≤ 4096) {i : Nat} (hi : i + 8 ≤ L) {τ : Mu} {α : Nat → Nat} {M : Mem} {q mb ao n9 : Nat} (hj : LJ τ G α M q mb ao) (hk : LK n9 τ) (hn9 : n9 ≤ 600) {cells slots : Nat} (hcs : cells ≤ 500000) (hss : slots ≤ 7000000) {Q : State → Prop} (kk : ∀ U be M2, LJ U G be M2 q mb ao → LK (n9 + 1) U → V p l e room_1 s m args below meth c G Q 8 M2 (cells + 20) (slots + 4000) 2691 [(0, .ref b), (1, .ref q), (2, .ref mb), (3, .ref ao), (4, .int (nI i))] []) : V p l e room_1 s m args below meth c G Q 8 M cells slots 2623 [(0, .ref b), (1, .ref q), (2, .ref mb), (3, .ref ao), (4, .int (nI i))] [] := by
  have hj0 := hj
  obtain ⟨hw, ⟨hws, hwt, hwb⟩, ha0, hmt, ⟨hao, hao1⟩, han, hmn, hom⟩ := hj0
  subst ha0
  refine r_aload_n C 1 dL_law_2623 rfl rfl ?_
  refine r_aload_n C 0 dL_law_2624 rfl rfl ?_
  refine r_iload C 4 dL_law_2625 rfl ?_
  refine r_iconst C (v := nI 1) dL_law_2627 (by decide) ?_
  refine r_iaddN C dL_law_2628 ?_
  refine r_sld C hX hbl hbA hL (i := i + 1) (by omega) dL_law_2629 ?_
  refine r_aload_n C 0 dL_law_2630 rfl rfl ?_
  refine r_iload C 4 dL_law_2631 rfl ?_
  refine r_iconst C (v := nI 2) dL_law_2633 (by decide) ?_
  refine r_iaddN C dL_law_2634 ?_
  refine r_sld C hX hbl hbA hL (i := i + 2) (by omega) dL_law_2635 ?_
  refine r_aload_n C 3 dL_law_2636 rfl rfl ?_
  refine r_callH C hgX hl_corrections (c_L_corrections l hfl G M τ hw α hws hwt hwb (hk.ad hn9) (xs (i + 1)) (xs (i + 2)) ao hao hao1 han (fun _ => hw)) rfl (Nat.le_of_ble_eq_true rfl) (rm_hR (Nat.le_of_ble_eq_true rfl) (Nat.le_of_ble_eq_true rfl)) (rm_hf (by omega) (by omega)) dL_law_2637 rfl ?_
  intro v1 M1 hlp0
  obtain ⟨cc, hcc, hlp, hv1⟩ := LPo.ex hlp0
  subst hv1
  clear hlp0
  have hc3 : cc ≤ 3 := by rw [hcc]; exact cd1_le _
  have hmd := hj.mid hlp
  refine V.eSt (st' := [.int (nI cc)]) rfl ?_
  refine r_istore C (lo' := [(5, .int (nI cc)), (0, .ref b), (1, .ref (α 0)), (2, .ref mb), (3, .ref ao), (4, .int (nI i))]) dL_law_2640 (by decide) rfl ?_
  refine r_aload_n C 3 dL_law_2642 rfl rfl ?_
  refine r_aload_n C 1 dL_law_2643 rfl rfl ?_
  refine r_iload C 5 dL_law_2644 rfl ?_
  refine r_iconst C (v := nI 1) dL_law_2646 (by decide) ?_
  refine r_iaddN C dL_law_2647 ?_
  refine r_sld C hX hbl hbA hL (i := i + 1) (by omega) dL_law_2648 ?_
  refine r_aload_n C 1 dL_law_2649 rfl rfl ?_
  refine r_iload C 5 dL_law_2650 rfl ?_
  refine r_iconst C (v := nI 2) dL_law_2652 (by decide) ?_
  refine r_iaddN C dL_law_2653 ?_
  refine r_sld C hX hbl hbA hL (i := i + 2) (by omega) dL_law_2654 ?_
  refine r_callV C hgX (ci := 14) ml_L_254 im_X12_corrections se_X12_corrections rfl rfl hmd.1.1 (c_X12_corrections l hfl G M1 mb τ hmd.1 hmd.2.1 hw hmd.2.2.1 hmd.2.2.2 (xs (i + 1)) (xs (i + 2))) rfl (Nat.le_of_ble_eq_true rfl) (rm_hR (Nat.le_of_ble_eq_true rfl) (Nat.le_of_ble_eq_true rfl)) (rm_hf (by omega) (by omega)) dL_law_2655 rfl ?_
  intro v2 M2 hpp0
  have hpp := PP.ex hcc hpp0
  clear hpp0
  obtain ⟨be, hj2, hlk⟩ := hj.step2 (n := n9 + 1) (fun _ => ⟨hw, hk.up⟩) hk.up hlp hpp
  obtain ⟨x2, hx2⟩ := hpp.2.2.2.2.2
  subst hx2
  refine V.eSt (st' := [.int x2]) rfl ?_
  refine r_istore C (lo' := [(6, .int x2), (5, .int (nI cc)), (0, .ref b), (1, .ref (α 0)), (2, .ref mb), (3, .ref ao), (4, .int (nI i))]) dL_law_2658 (by decide) rfl ?_
  refine r_aload_n C 4 dL_law_2660 rfl rfl ?_
  refine r_callV C hgX (ci := 14) ml_L_138 im_X12_thrown se_X12_thrown rfl rfl hj2.2.2.2.1.1.1 (c_X12_thrown l hfl G M2 mb hj2.2.2.2.1.1) rfl (Nat.le_of_ble_eq_true rfl) (rm_hR (Nat.le_of_ble_eq_true rfl) (Nat.le_of_ble_eq_true rfl)) (rm_hf (by omega) (by omega)) dL_law_2661 rfl ?_
  intro v3 M3 h3
  obtain ⟨hv3, hM3⟩ := h3
  subst hv3
  subst hM3
  refine V.eSt (st' := [.int (nI cc)]) (congrArg (fun z_ => [Value.int z_]) hpp.1) ?_
  refine r_iload C 1 dL_law_2664 rfl ?_
  refine r_icmp_eqN C (t := 2671) (by omega) (by omega) dL_law_2666 (by decide) (fun c2666 => ?_) (fun c2666 => ?_)
  · skip
    refine r_iload C 1 dL_law_2671 rfl ?_
    refine r_if_neN C (t := 2688) (by omega) dL_law_2673 (by decide) (fun c2673 => ?_) (fun c2673 => ?_)
    · skip
      refine r_goto C (t := 2691) dL_law_2688 (by decide) ?_
      refine V.sub [2, 3, 4, 5, 6] (lo' := [(0, .ref b), (1, .ref (α 0)), (2, .ref mb), (3, .ref ao), (4, .int (nI i))]) rfl ?_
      refine V.widen (k := cells + 20) (n := slots + 4000) (by omega) (by omega) ?_
      exact kk _ be M2 hj2 hlk
    · skip
      refine r_aload_n C 5 dL_law_2676 rfl rfl ?_
      refine r_iconst C (v := nI 0) dL_law_2677 (by decide) ?_
      refine r_laloadN C hj2.2.2.2.2.1.1 hj2.2.2.2.2.1.2 (by omega) (by omega) dL_law_2678 ?_
      refine r_iload C 0 dL_law_2679 rfl ?_
      refine r_i2l C dL_law_2681 ?_
      have hA := hj.out hlp hpp c2673
      have hB := so_i (hpp.2.2.2.2.1 c2673).1
      refine r_lcmp_eq C (t := 2688) dL_law_2682 dL_law_2683 (by decide) (fun c2683 => ?_) (fun c2683 => ?_)
      · skip
        refine r_goto C (t := 2691) dL_law_2688 (by decide) ?_
        refine V.sub [2, 3, 4, 5, 6] (lo' := [(0, .ref b), (1, .ref (α 0)), (2, .ref mb), (3, .ref ao), (4, .int (nI i))]) rfl ?_
        refine V.widen (k := cells + 20) (n := slots + 4000) (by omega) (by omega) ?_
        exact kk _ be M2 hj2 hlk
      · exact absurd (by rw [hA, hB]) c2683
  · exact absurd rfl c2666
