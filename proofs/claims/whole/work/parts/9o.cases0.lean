/-! THE LAW: its cases, 0 to 8 -/
theorem LPo.ex {τ : Mu} {G : gW} {α : Nat → Nat} {M M' : Mem} {ao C : Nat} {U : Mu} {R : Option Int64} {v : Option Value} (h : LPo τ G α M ao C U R v M') : ∃ cc, cc = C ∧ LPo τ G α M ao cc U R v M' ∧ v = some (.int (nI cc)) := ⟨C, rfl, h, h.1⟩
theorem PP.ex {mb C cc : Nat} {M M' : Mem} {τ U : Mu} {R v : Option Value} (e : cc = C) (h : PP mb M τ C U R v M') : PP mb M τ cc U R v M' := e ▸ h
theorem lk_if {n cc : Nat} {τ U : Mu} (h1 : cc = 0 → LK n U) (h2 : LK n τ) : LK n (if cc = 0 then U else τ) := by
  by_cases z : cc = 0
  · rw [if_pos z]; exact h1 z
  · rw [if_neg z]; exact h2
theorem LJ.step2 {τ U : Mu} {G : gW} {α : Nat → Nat} {M M1 M2 : Mem} {q mb ao C n : Nat} {R : Option Int64} {R' v v' : Option Value} (h : LJ τ G α M q mb ao) (hwU : C = 0 → WF U ∧ LK n U) (hk : LK n τ) (p : LPo τ G α M ao C U R v M1) (pp : PP mb M1 τ C U R' v' M2) : ∃ β, LJ (if C = 0 then U else τ) G β M2 q mb ao ∧ LK n (if C = 0 then U else τ) := by
  obtain ⟨be, hj⟩ := h.step (fun z => (hwU z).1) p pp
  exact ⟨be, hj, lk_if (fun z => (hwU z).2) hk⟩
theorem so_i {x y : Int32} (h : some (Value.int x) = some (.int y)) : x = y := by cases h; rfl
theorem so_l {x y : Int64} (h : some (Value.long x) = some (.long y)) : x = y := by cases h; rfl
theorem rm_hf {a b : Nat} (h1 : a ≤ 601024) (h2 : b ≤ 7293034) : a ≤ room_1.cells ∧ b ≤ room_1.slots := ⟨h1, h2⟩
theorem rm_hR {a b : Nat} (h1 : a ≤ 2048) (h2 : b ≤ 84000) : a ≤ room_1.frames ∧ b ≤ room_1.locals := ⟨h1, h2⟩
/-- an answer without a code is one with the code 0 -/
theorem PC.lp {τ : Mu} {G : gW} {α : Nat → Nat} {M M' : Mem} {ao : Nat} {R v : Option Value} (h : PC τ G α M 0 τ R v M') : LPo τ G α M ao 0 τ none (some (.int (nI 0))) M' := by
  obtain ⟨_, _, be, hWD, hb0, hCF, hXO⟩ := h
  exact ⟨rfl, fun _ x_ h_ => (by cases h_), be, by rw [if_pos rfl]; exact hWD, hb0, LQ.of0 hCF, by rw [if_pos rfl]; exact hXO⟩
set_option maxHeartbeats 1000000 in
set_option maxRecDepth 100000 in
theorem lc_contract (l : Launch) (hfl : l.flags = flags0) {p : Program} {e : Env} {s : State} {m : MethodId} {args : Array Value} {below : List Frame} {meth : Method} {c : Code} {G : gW} (C : Cx p l s m args meth c G RL cL_law 8) (hgX : gX G s s.heap) {b L : Nat} {xs : Nat → Int32} (hX : va_X b L xs s s.heap) (hbl : b < s.heap.size) (hbA : ¬ gA G b) (hL : L ≤ 4096) {i : Nat} (hi : i + 8 ≤ L) {τ : Mu} {α : Nat → Nat} {M : Mem} {q mb ao n9 : Nat} (hj : LJ τ G α M q mb ao) (hk : LK n9 τ) (hn9 : n9 ≤ 600) {cells slots : Nat} (hcs : cells ≤ 500000) (hss : slots ≤ 7000000) {Q : State → Prop} (kk : ∀ U be M2, LJ U G be M2 q mb ao → LK (n9 + 1) U → V p l e room_1 s m args below meth c G Q 8 M2 (cells + 20) (slots + 4000) 2691 [(0, .ref b), (1, .ref q), (2, .ref mb), (3, .ref ao), (4, .int (nI i))] []) : V p l e room_1 s m args below meth c G Q 8 M cells slots 192 [(0, .ref b), (1, .ref q), (2, .ref mb), (3, .ref ao), (4, .int (nI i))] [] := by
  have hj0 := hj
  obtain ⟨hw, ⟨hws, hwt, hwb⟩, ha0, hmt, ⟨hao, hao1⟩, han, hmn, hom⟩ := hj0
  subst ha0
  by_cases hz : xs (i + 5) = 0
  · skip
    refine r_aload_n C 1 dL_law_192 rfl rfl ?_
    refine r_aload_n C 0 dL_law_193 rfl rfl ?_
    refine r_iload C 4 dL_law_194 rfl ?_
    refine r_iconst C (v := nI 1) dL_law_196 (by decide) ?_
    refine r_iaddN C dL_law_197 ?_
    refine r_sld C hX hbl hbA hL (i := i + 1) (by omega) dL_law_198 ?_
    refine r_aload_n C 0 dL_law_199 rfl rfl ?_
    refine r_iload C 4 dL_law_200 rfl ?_
    refine r_iconst C (v := nI 2) dL_law_202 (by decide) ?_
    refine r_iaddN C dL_law_203 ?_
    refine r_sld C hX hbl hbA hL (i := i + 2) (by omega) dL_law_204 ?_
    refine r_aload_n C 0 dL_law_205 rfl rfl ?_
    refine r_iload C 4 dL_law_206 rfl ?_
    refine r_iconst C (v := nI 3) dL_law_208 (by decide) ?_
    refine r_iaddN C dL_law_209 ?_
    refine r_sld C hX hbl hbA hL (i := i + 3) (by omega) dL_law_210 ?_
    refine r_aload_n C 0 dL_law_211 rfl rfl ?_
    refine r_iload C 4 dL_law_212 rfl ?_
    refine r_iconst C (v := nI 4) dL_law_214 (by decide) ?_
    refine r_iaddN C dL_law_215 ?_
    refine r_sld C hX hbl hbA hL (i := i + 4) (by omega) dL_law_216 ?_
    refine r_aload_n C 0 dL_law_217 rfl rfl ?_
    refine r_iload C 4 dL_law_218 rfl ?_
    refine r_iconst C (v := nI 5) dL_law_220 (by decide) ?_
    refine r_iaddN C dL_law_221 ?_
    refine r_sld C hX hbl hbA hL (i := i + 5) (by omega) dL_law_222 ?_
    refine r_if_eq C (t := 230) dL_law_223 (by decide) (fun c223 => ?_) (fun c223 => ?_)
    · skip
      refine r_iconst C (v := bI false) dL_law_230 (by decide) ?_
      refine r_aload_n C 0 dL_law_231 rfl rfl ?_
      refine r_iload C 4 dL_law_232 rfl ?_
      refine r_bipush C (v := nI 6) dL_law_234 (by decide) ?_
      refine r_iaddN C dL_law_236 ?_
      refine r_sld C hX hbl hbA hL (i := i + 6) (by omega) dL_law_237 ?_
      refine r_aload_n C 0 dL_law_238 rfl rfl ?_
      refine r_iload C 4 dL_law_239 rfl ?_
      refine r_bipush C (v := nI 7) dL_law_241 (by decide) ?_
      refine r_iaddN C dL_law_243 ?_
      refine r_sld C hX hbl hbA hL (i := i + 7) (by omega) dL_law_244 ?_
      refine r_aload_n C 3 dL_law_245 rfl rfl ?_
      refine r_callH C hgX hl_contract (c_L_contract l hfl G M τ hw α hws hwt hwb (hk.ad hn9) (xs (i + 1)) (xs (i + 2)) (xs (i + 3)) (xs (i + 4)) false (xs (i + 6)) (xs (i + 7)) (fun h9_ => hk.n6 (Nat.lt_of_le_of_ne hw.nc.2 h9_)) ao hao hao1 han (fun h_ => (lk_contract hw hk hn9 h_).1)) rfl (Nat.le_of_ble_eq_true rfl) (rm_hR (Nat.le_of_ble_eq_true rfl) (Nat.le_of_ble_eq_true rfl)) (rm_hf (by omega) (by omega)) dL_law_246 rfl ?_
      intro v1 M1 hlp0
      obtain ⟨cc, hcc, hlp, hv1⟩ := LPo.ex hlp0
      subst hv1
      clear hlp0
      have hc3 : cc ≤ 3 := by rw [hcc]; exact cd3_le _ _ _
      have hmd := hj.mid hlp
      refine V.eSt (st' := [.int (nI cc)]) rfl ?_
      refine r_istore C (lo' := [(5, .int (nI cc)), (0, .ref b), (1, .ref (α 0)), (2, .ref mb), (3, .ref ao), (4, .int (nI i))]) dL_law_249 (by decide) rfl ?_
      refine r_aload_n C 3 dL_law_251 rfl rfl ?_
      refine r_aload_n C 1 dL_law_252 rfl rfl ?_
      refine r_iload C 5 dL_law_253 rfl ?_
      refine r_iconst C (v := nI 1) dL_law_255 (by decide) ?_
      refine r_iaddN C dL_law_256 ?_
      refine r_sld C hX hbl hbA hL (i := i + 1) (by omega) dL_law_257 ?_
      refine r_aload_n C 1 dL_law_258 rfl rfl ?_
      refine r_iload C 5 dL_law_259 rfl ?_
      refine r_iconst C (v := nI 2) dL_law_261 (by decide) ?_
      refine r_iaddN C dL_law_262 ?_
      refine r_sld C hX hbl hbA hL (i := i + 2) (by omega) dL_law_263 ?_
      refine r_aload_n C 1 dL_law_264 rfl rfl ?_
      refine r_iload C 5 dL_law_265 rfl ?_
      refine r_iconst C (v := nI 3) dL_law_267 (by decide) ?_
      refine r_iaddN C dL_law_268 ?_
      refine r_sld C hX hbl hbA hL (i := i + 3) (by omega) dL_law_269 ?_
      refine r_aload_n C 1 dL_law_270 rfl rfl ?_
      refine r_iload C 5 dL_law_271 rfl ?_
      refine r_iconst C (v := nI 4) dL_law_273 (by decide) ?_
      refine r_iaddN C dL_law_274 ?_
      refine r_sld C hX hbl hbA hL (i := i + 4) (by omega) dL_law_275 ?_
      refine r_aload_n C 1 dL_law_276 rfl rfl ?_
      refine r_iload C 5 dL_law_277 rfl ?_
      refine r_iconst C (v := nI 5) dL_law_279 (by decide) ?_
      refine r_iaddN C dL_law_280 ?_
      refine r_sld C hX hbl hbA hL (i := i + 5) (by omega) dL_law_281 ?_
      refine r_if_eq C (t := 289) dL_law_282 (by decide) (fun c282 => ?_) (fun c282 => ?_)
      · skip
        refine r_iconst C (v := bI false) dL_law_289 (by decide) ?_
        refine r_aload_n C 1 dL_law_290 rfl rfl ?_
        refine r_iload C 5 dL_law_291 rfl ?_
        refine r_bipush C (v := nI 6) dL_law_293 (by decide) ?_
        refine r_iaddN C dL_law_295 ?_
        refine r_sld C hX hbl hbA hL (i := i + 6) (by omega) dL_law_296 ?_
        refine r_aload_n C 1 dL_law_297 rfl rfl ?_
        refine r_iload C 5 dL_law_298 rfl ?_
        refine r_bipush C (v := nI 7) dL_law_300 (by decide) ?_
        refine r_iaddN C dL_law_302 ?_
        refine r_sld C hX hbl hbA hL (i := i + 7) (by omega) dL_law_303 ?_
        refine r_callV C hgX (ci := 14) ml_L_137 im_X12_contract se_X12_contract rfl rfl hmd.1.1 (c_X12_contract l hfl G M1 mb τ hmd.1 hmd.2.1 hw hmd.2.2.1 hmd.2.2.2 (xs (i + 1)) (xs (i + 2)) (xs (i + 3)) (xs (i + 4)) false (xs (i + 6)) (xs (i + 7))) rfl (Nat.le_of_ble_eq_true rfl) (rm_hR (Nat.le_of_ble_eq_true rfl) (Nat.le_of_ble_eq_true rfl)) (rm_hf (by omega) (by omega)) dL_law_304 rfl ?_
        intro v2 M2 hpp0
        have hpp := PP.ex hcc hpp0
        clear hpp0
        obtain ⟨be, hj2, hlk⟩ := hj.step2 (n := n9 + 1) (fun h_ => lk_contract hw hk hn9 (hcc.symm.trans h_)) hk.up hlp hpp
        obtain ⟨x2, hx2⟩ := hpp.2.2.2.2.2
        subst hx2
        refine V.eSt (st' := [.int x2]) rfl ?_
        refine r_istore C (lo' := [(6, .int x2), (5, .int (nI cc)), (0, .ref b), (1, .ref (α 0)), (2, .ref mb), (3, .ref ao), (4, .int (nI i))]) dL_law_307 (by decide) rfl ?_
        refine r_aload_n C 4 dL_law_309 rfl rfl ?_
        refine r_callV C hgX (ci := 14) ml_L_138 im_X12_thrown se_X12_thrown rfl rfl hj2.2.2.2.1.1.1 (c_X12_thrown l hfl G M2 mb hj2.2.2.2.1.1) rfl (Nat.le_of_ble_eq_true rfl) (rm_hR (Nat.le_of_ble_eq_true rfl) (Nat.le_of_ble_eq_true rfl)) (rm_hf (by omega) (by omega)) dL_law_310 rfl ?_
        intro v3 M3 h3
        obtain ⟨hv3, hM3⟩ := h3
        subst hv3
        subst hM3
        refine V.eSt (st' := [.int (nI cc)]) (congrArg (fun z_ => [Value.int z_]) hpp.1) ?_
        refine r_iload C 1 dL_law_313 rfl ?_
        refine r_icmp_eqN C (t := 320) (by omega) (by omega) dL_law_315 (by decide) (fun c315 => ?_) (fun c315 => ?_)
        · skip
          refine r_iload C 1 dL_law_320 rfl ?_
          refine r_if_neN C (t := 337) (by omega) dL_law_322 (by decide) (fun c322 => ?_) (fun c322 => ?_)
          · skip
            refine r_goto C (t := 2691) dL_law_337 (by decide) ?_
            refine V.sub [2, 3, 4, 5, 6] (lo' := [(0, .ref b), (1, .ref (α 0)), (2, .ref mb), (3, .ref ao), (4, .int (nI i))]) rfl ?_
            refine V.widen (k := cells + 20) (n := slots + 4000) (by omega) (by omega) ?_
            exact kk _ be M2 hj2 hlk
          · skip
            refine r_aload_n C 5 dL_law_325 rfl rfl ?_
            refine r_iconst C (v := nI 0) dL_law_326 (by decide) ?_
            refine r_laloadN C hj2.2.2.2.2.1.1 hj2.2.2.2.2.1.2 (by omega) (by omega) dL_law_327 ?_
            refine r_iload C 0 dL_law_328 rfl ?_
            refine r_i2l C dL_law_330 ?_
            have hA := hj.out hlp hpp c322
            have hB := so_i (hpp.2.2.2.2.1 c322).1
            refine r_lcmp_eq C (t := 337) dL_law_331 dL_law_332 (by decide) (fun c332 => ?_) (fun c332 => ?_)
            · skip
              refine r_goto C (t := 2691) dL_law_337 (by decide) ?_
              refine V.sub [2, 3, 4, 5, 6] (lo' := [(0, .ref b), (1, .ref (α 0)), (2, .ref mb), (3, .ref ao), (4, .int (nI i))]) rfl ?_
              refine V.widen (k := cells + 20) (n := slots + 4000) (by omega) (by omega) ?_
              exact kk _ be M2 hj2 hlk
            · exact absurd (by rw [hA, hB]) c332
        · exact absurd rfl c315
      · exact absurd hz c282
    · exact absurd hz c223
  · skip
    refine r_aload_n C 1 dL_law_192 rfl rfl ?_
    refine r_aload_n C 0 dL_law_193 rfl rfl ?_
    refine r_iload C 4 dL_law_194 rfl ?_
    refine r_iconst C (v := nI 1) dL_law_196 (by decide) ?_
    refine r_iaddN C dL_law_197 ?_
    refine r_sld C hX hbl hbA hL (i := i + 1) (by omega) dL_law_198 ?_
    refine r_aload_n C 0 dL_law_199 rfl rfl ?_
    refine r_iload C 4 dL_law_200 rfl ?_
    refine r_iconst C (v := nI 2) dL_law_202 (by decide) ?_
    refine r_iaddN C dL_law_203 ?_
    refine r_sld C hX hbl hbA hL (i := i + 2) (by omega) dL_law_204 ?_
    refine r_aload_n C 0 dL_law_205 rfl rfl ?_
    refine r_iload C 4 dL_law_206 rfl ?_
    refine r_iconst C (v := nI 3) dL_law_208 (by decide) ?_
    refine r_iaddN C dL_law_209 ?_
    refine r_sld C hX hbl hbA hL (i := i + 3) (by omega) dL_law_210 ?_
    refine r_aload_n C 0 dL_law_211 rfl rfl ?_
    refine r_iload C 4 dL_law_212 rfl ?_
    refine r_iconst C (v := nI 4) dL_law_214 (by decide) ?_
    refine r_iaddN C dL_law_215 ?_
    refine r_sld C hX hbl hbA hL (i := i + 4) (by omega) dL_law_216 ?_
    refine r_aload_n C 0 dL_law_217 rfl rfl ?_
    refine r_iload C 4 dL_law_218 rfl ?_
    refine r_iconst C (v := nI 5) dL_law_220 (by decide) ?_
    refine r_iaddN C dL_law_221 ?_
    refine r_sld C hX hbl hbA hL (i := i + 5) (by omega) dL_law_222 ?_
    refine r_if_eq C (t := 230) dL_law_223 (by decide) (fun c223 => ?_) (fun c223 => ?_)
    · exact absurd c223 hz
    · skip
      refine r_iconst C (v := bI true) dL_law_226 (by decide) ?_
      refine r_goto C (t := 231) dL_law_227 (by decide) ?_
      refine r_aload_n C 0 dL_law_231 rfl rfl ?_
      refine r_iload C 4 dL_law_232 rfl ?_
      refine r_bipush C (v := nI 6) dL_law_234 (by decide) ?_
      refine r_iaddN C dL_law_236 ?_
      refine r_sld C hX hbl hbA hL (i := i + 6) (by omega) dL_law_237 ?_
      refine r_aload_n C 0 dL_law_238 rfl rfl ?_
      refine r_iload C 4 dL_law_239 rfl ?_
      refine r_bipush C (v := nI 7) dL_law_241 (by decide) ?_
      refine r_iaddN C dL_law_243 ?_
      refine r_sld C hX hbl hbA hL (i := i + 7) (by omega) dL_law_244 ?_
      refine r_aload_n C 3 dL_law_245 rfl rfl ?_
      refine r_callH C hgX hl_contract (c_L_contract l hfl G M τ hw α hws hwt hwb (hk.ad hn9) (xs (i + 1)) (xs (i + 2)) (xs (i + 3)) (xs (i + 4)) true (xs (i + 6)) (xs (i + 7)) (fun h9_ => hk.n6 (Nat.lt_of_le_of_ne hw.nc.2 h9_)) ao hao hao1 han (fun h_ => (lk_contract hw hk hn9 h_).1)) rfl (Nat.le_of_ble_eq_true rfl) (rm_hR (Nat.le_of_ble_eq_true rfl) (Nat.le_of_ble_eq_true rfl)) (rm_hf (by omega) (by omega)) dL_law_246 rfl ?_
      intro v1 M1 hlp0
      obtain ⟨cc, hcc, hlp, hv1⟩ := LPo.ex hlp0
      subst hv1
      clear hlp0
      have hc3 : cc ≤ 3 := by rw [hcc]; exact cd3_le _ _ _
      have hmd := hj.mid hlp
      refine V.eSt (st' := [.int (nI cc)]) rfl ?_
      refine r_istore C (lo' := [(5, .int (nI cc)), (0, .ref b), (1, .ref (α 0)), (2, .ref mb), (3, .ref ao), (4, .int (nI i))]) dL_law_249 (by decide) rfl ?_
      refine r_aload_n C 3 dL_law_251 rfl rfl ?_
      refine r_aload_n C 1 dL_law_252 rfl rfl ?_
      refine r_iload C 5 dL_law_253 rfl ?_
      refine r_iconst C (v := nI 1) dL_law_255 (by decide) ?_
      refine r_iaddN C dL_law_256 ?_
      refine r_sld C hX hbl hbA hL (i := i + 1) (by omega) dL_law_257 ?_
      refine r_aload_n C 1 dL_law_258 rfl rfl ?_
      refine r_iload C 5 dL_law_259 rfl ?_
      refine r_iconst C (v := nI 2) dL_law_261 (by decide) ?_
      refine r_iaddN C dL_law_262 ?_
      refine r_sld C hX hbl hbA hL (i := i + 2) (by omega) dL_law_263 ?_
      refine r_aload_n C 1 dL_law_264 rfl rfl ?_
      refine r_iload C 5 dL_law_265 rfl ?_
      refine r_iconst C (v := nI 3) dL_law_267 (by decide) ?_
      refine r_iaddN C dL_law_268 ?_
      refine r_sld C hX hbl hbA hL (i := i + 3) (by omega) dL_law_269 ?_
      refine r_aload_n C 1 dL_law_270 rfl rfl ?_
      refine r_iload C 5 dL_law_271 rfl ?_
      refine r_iconst C (v := nI 4) dL_law_273 (by decide) ?_
      refine r_iaddN C dL_law_274 ?_
      refine r_sld C hX hbl hbA hL (i := i + 4) (by omega) dL_law_275 ?_
      refine r_aload_n C 1 dL_law_276 rfl rfl ?_
      refine r_iload C 5 dL_law_277 rfl ?_
      refine r_iconst C (v := nI 5) dL_law_279 (by decide) ?_
      refine r_iaddN C dL_law_280 ?_
      refine r_sld C hX hbl hbA hL (i := i + 5) (by omega) dL_law_281 ?_
      refine r_if_eq C (t := 289) dL_law_282 (by decide) (fun c282 => ?_) (fun c282 => ?_)
      · exact absurd c282 hz
      · skip
        refine r_iconst C (v := bI true) dL_law_285 (by decide) ?_
        refine r_goto C (t := 290) dL_law_286 (by decide) ?_
        refine r_aload_n C 1 dL_law_290 rfl rfl ?_
        refine r_iload C 5 dL_law_291 rfl ?_
        refine r_bipush C (v := nI 6) dL_law_293 (by decide) ?_
        refine r_iaddN C dL_law_295 ?_
        refine r_sld C hX hbl hbA hL (i := i + 6) (by omega) dL_law_296 ?_
        refine r_aload_n C 1 dL_law_297 rfl rfl ?_
        refine r_iload C 5 dL_law_298 rfl ?_
        refine r_bipush C (v := nI 7) dL_law_300 (by decide) ?_
        refine r_iaddN C dL_law_302 ?_
        refine r_sld C hX hbl hbA hL (i := i + 7) (by omega) dL_law_303 ?_
        refine r_callV C hgX (ci := 14) ml_L_137 im_X12_contract se_X12_contract rfl rfl hmd.1.1 (c_X12_contract l hfl G M1 mb τ hmd.1 hmd.2.1 hw hmd.2.2.1 hmd.2.2.2 (xs (i + 1)) (xs (i + 2)) (xs (i + 3)) (xs (i + 4)) true (xs (i + 6)) (xs (i + 7))) rfl (Nat.le_of_ble_eq_true rfl) (rm_hR (Nat.le_of_ble_eq_true rfl) (Nat.le_of_ble_eq_true rfl)) (rm_hf (by omega) (by omega)) dL_law_304 rfl ?_
        intro v2 M2 hpp0
        have hpp := PP.ex hcc hpp0
        clear hpp0
        obtain ⟨be, hj2, hlk⟩ := hj.step2 (n := n9 + 1) (fun h_ => lk_contract hw hk hn9 (hcc.symm.trans h_)) hk.up hlp hpp
        obtain ⟨x2, hx2⟩ := hpp.2.2.2.2.2
        subst hx2
        refine V.eSt (st' := [.int x2]) rfl ?_
        refine r_istore C (lo' := [(6, .int x2), (5, .int (nI cc)), (0, .ref b), (1, .ref (α 0)), (2, .ref mb), (3, .ref ao), (4, .int (nI i))]) dL_law_307 (by decide) rfl ?_
        refine r_aload_n C 4 dL_law_309 rfl rfl ?_
        refine r_callV C hgX (ci := 14) ml_L_138 im_X12_thrown se_X12_thrown rfl rfl hj2.2.2.2.1.1.1 (c_X12_thrown l hfl G M2 mb hj2.2.2.2.1.1) rfl (Nat.le_of_ble_eq_true rfl) (rm_hR (Nat.le_of_ble_eq_true rfl) (Nat.le_of_ble_eq_true rfl)) (rm_hf (by omega) (by omega)) dL_law_310 rfl ?_
        intro v3 M3 h3
        obtain ⟨hv3, hM3⟩ := h3
        subst hv3
        subst hM3
        refine V.eSt (st' := [.int (nI cc)]) (congrArg (fun z_ => [Value.int z_]) hpp.1) ?_
        refine r_iload C 1 dL_law_313 rfl ?_
        refine r_icmp_eqN C (t := 320) (by omega) (by omega) dL_law_315 (by decide) (fun c315 => ?_) (fun c315 => ?_)
        · skip
          refine r_iload C 1 dL_law_320 rfl ?_
          refine r_if_neN C (t := 337) (by omega) dL_law_322 (by decide) (fun c322 => ?_) (fun c322 => ?_)
          · skip
            refine r_goto C (t := 2691) dL_law_337 (by decide) ?_
            refine V.sub [2, 3, 4, 5, 6] (lo' := [(0, .ref b), (1, .ref (α 0)), (2, .ref mb), (3, .ref ao), (4, .int (nI i))]) rfl ?_
            refine V.widen (k := cells + 20) (n := slots + 4000) (by omega) (by omega) ?_
            exact kk _ be M2 hj2 hlk
          · skip
            refine r_aload_n C 5 dL_law_325 rfl rfl ?_
            refine r_iconst C (v := nI 0) dL_law_326 (by decide) ?_
            refine r_laloadN C hj2.2.2.2.2.1.1 hj2.2.2.2.2.1.2 (by omega) (by omega) dL_law_327 ?_
            refine r_iload C 0 dL_law_328 rfl ?_
            refine r_i2l C dL_law_330 ?_
            have hA := hj.out hlp hpp c322
            have hB := so_i (hpp.2.2.2.2.1 c322).1
            refine r_lcmp_eq C (t := 337) dL_law_331 dL_law_332 (by decide) (fun c332 => ?_) (fun c332 => ?_)
            · skip
              refine r_goto C (t := 2691) dL_law_337 (by decide) ?_
              refine V.sub [2, 3, 4, 5, 6] (lo' := [(0, .ref b), (1, .ref (α 0)), (2, .ref mb), (3, .ref ao), (4, .int (nI i))]) rfl ?_
              refine V.widen (k := cells + 20) (n := slots + 4000) (by omega) (by omega) ?_
              exact kk _ be M2 hj2 hlk
            · exact absurd (by rw [hA, hB]) c332
        · exact absurd rfl c315
set_option maxHeartbeats 1000000 in
set_option maxRecDepth 100000 in
theorem lc_pay (l : Launch) (hfl : l.flags = flags0) {p : Program} {e : Env} {s : State} {m : MethodId} {args : Array Value} {below : List Frame} {meth : Method} {c : Code} {G : gW} (C : Cx p l s m args meth c G RL cL_law 8) (hgX : gX G s s.heap) {b L : Nat} {xs : Nat → Int32} (hX : va_X b L xs s s.heap) (hbl : b < s.heap.size) (hbA : ¬ gA G b) (hL : L ≤ 4096) {i : Nat} (hi : i + 8 ≤ L) {τ : Mu} {α : Nat → Nat} {M : Mem} {q mb ao n9 : Nat} (hj : LJ τ G α M q mb ao) (hk : LK n9 τ) (hn9 : n9 ≤ 600) {cells slots : Nat} (hcs : cells ≤ 500000) (hss : slots ≤ 7000000) {Q : State → Prop} (kk : ∀ U be M2, LJ U G be M2 q mb ao → LK (n9 + 1) U → V p l e room_1 s m args below meth c G Q 8 M2 (cells + 20) (slots + 4000) 2691 [(0, .ref b), (1, .ref q), (2, .ref mb), (3, .ref ao), (4, .int (nI i))] []) : V p l e room_1 s m args below meth c G Q 8 M cells slots 340 [(0, .ref b), (1, .ref q), (2, .ref mb), (3, .ref ao), (4, .int (nI i))] [] := by
  have hj0 := hj
  obtain ⟨hw, ⟨hws, hwt, hwb⟩, ha0, hmt, ⟨hao, hao1⟩, han, hmn, hom⟩ := hj0
  subst ha0
  refine r_aload_n C 1 dL_law_340 rfl rfl ?_
  refine r_aload_n C 0 dL_law_341 rfl rfl ?_
  refine r_iload C 4 dL_law_342 rfl ?_
  refine r_iconst C (v := nI 1) dL_law_344 (by decide) ?_
  refine r_iaddN C dL_law_345 ?_
  refine r_sld C hX hbl hbA hL (i := i + 1) (by omega) dL_law_346 ?_
  refine r_aload_n C 0 dL_law_347 rfl rfl ?_
  refine r_iload C 4 dL_law_348 rfl ?_
  refine r_iconst C (v := nI 2) dL_law_350 (by decide) ?_
  refine r_iaddN C dL_law_351 ?_
  refine r_sld C hX hbl hbA hL (i := i + 2) (by omega) dL_law_352 ?_
  refine r_aload_n C 0 dL_law_353 rfl rfl ?_
  refine r_iload C 4 dL_law_354 rfl ?_
  refine r_iconst C (v := nI 3) dL_law_356 (by decide) ?_
  refine r_iaddN C dL_law_357 ?_
  refine r_sld C hX hbl hbA hL (i := i + 3) (by omega) dL_law_358 ?_
  refine r_aload_n C 3 dL_law_359 rfl rfl ?_
  refine r_callH C hgX hl_pay (c_L_pay l hfl G M τ hw α hws hwt hwb (hk.ad hn9) (xs (i + 1)) (xs (i + 2)) (xs (i + 3)) ao hao hao1 han (fun h_ => (lk_pay hw hk hn9 h_).1)) rfl (Nat.le_of_ble_eq_true rfl) (rm_hR (Nat.le_of_ble_eq_true rfl) (Nat.le_of_ble_eq_true rfl)) (rm_hf (by omega) (by omega)) dL_law_360 rfl ?_
  intro v1 M1 hlp0
  obtain ⟨cc, hcc, hlp, hv1⟩ := LPo.ex hlp0
  subst hv1
  clear hlp0
  have hc3 : cc ≤ 3 := by rw [hcc]; exact cd2_le _ _
  have hmd := hj.mid hlp
  refine V.eSt (st' := [.int (nI cc)]) rfl ?_
  refine r_istore C (lo' := [(5, .int (nI cc)), (0, .ref b), (1, .ref (α 0)), (2, .ref mb), (3, .ref ao), (4, .int (nI i))]) dL_law_363 (by decide) rfl ?_
  refine r_aload_n C 3 dL_law_365 rfl rfl ?_
  refine r_aload_n C 1 dL_law_366 rfl rfl ?_
  refine r_iload C 5 dL_law_367 rfl ?_
  refine r_iconst C (v := nI 1) dL_law_369 (by decide) ?_
  refine r_iaddN C dL_law_370 ?_
  refine r_sld C hX hbl hbA hL (i := i + 1) (by omega) dL_law_371 ?_
  refine r_aload_n C 1 dL_law_372 rfl rfl ?_
  refine r_iload C 5 dL_law_373 rfl ?_
  refine r_iconst C (v := nI 2) dL_law_375 (by decide) ?_
  refine r_iaddN C dL_law_376 ?_
  refine r_sld C hX hbl hbA hL (i := i + 2) (by omega) dL_law_377 ?_
  refine r_aload_n C 1 dL_law_378 rfl rfl ?_
  refine r_iload C 5 dL_law_379 rfl ?_
  refine r_iconst C (v := nI 3) dL_law_381 (by decide) ?_
  refine r_iaddN C dL_law_382 ?_
  refine r_sld C hX hbl hbA hL (i := i + 3) (by omega) dL_law_383 ?_
  refine r_callV C hgX (ci := 14) ml_L_144 im_X12_pay se_X12_pay rfl rfl hmd.1.1 (c_X12_pay l hfl G M1 mb τ hmd.1 hmd.2.1 hw hmd.2.2.1 hmd.2.2.2 (xs (i + 1)) (xs (i + 2)) (xs (i + 3))) rfl (Nat.le_of_ble_eq_true rfl) (rm_hR (Nat.le_of_ble_eq_true rfl) (Nat.le_of_ble_eq_true rfl)) (rm_hf (by omega) (by omega)) dL_law_384 rfl ?_
  intro v2 M2 hpp0
  have hpp := PP.ex hcc hpp0
  clear hpp0
  obtain ⟨be, hj2, hlk⟩ := hj.step2 (n := n9 + 1) (fun h_ => lk_pay hw hk hn9 (hcc.symm.trans h_)) hk.up hlp hpp
  obtain ⟨x2, hx2⟩ := hpp.2.2.2.2.2
  subst hx2
  refine V.eSt (st' := [.int x2]) rfl ?_
  refine r_istore C (lo' := [(6, .int x2), (5, .int (nI cc)), (0, .ref b), (1, .ref (α 0)), (2, .ref mb), (3, .ref ao), (4, .int (nI i))]) dL_law_387 (by decide) rfl ?_
  refine r_aload_n C 4 dL_law_389 rfl rfl ?_
  refine r_callV C hgX (ci := 14) ml_L_138 im_X12_thrown se_X12_thrown rfl rfl hj2.2.2.2.1.1.1 (c_X12_thrown l hfl G M2 mb hj2.2.2.2.1.1) rfl (Nat.le_of_ble_eq_true rfl) (rm_hR (Nat.le_of_ble_eq_true rfl) (Nat.le_of_ble_eq_true rfl)) (rm_hf (by omega) (by omega)) dL_law_390 rfl ?_
  intro v3 M3 h3
  obtain ⟨hv3, hM3⟩ := h3
  subst hv3
  subst hM3
  refine V.eSt (st' := [.int (nI cc)]) (congrArg (fun z_ => [Value.int z_]) hpp.1) ?_
  refine r_iload C 1 dL_law_393 rfl ?_
  refine r_icmp_eqN C (t := 400) (by omega) (by omega) dL_law_395 (by decide) (fun c395 => ?_) (fun c395 => ?_)
  · skip
    refine r_iload C 1 dL_law_400 rfl ?_
    refine r_if_neN C (t := 417) (by omega) dL_law_402 (by decide) (fun c402 => ?_) (fun c402 => ?_)
    · skip
      refine r_goto C (t := 2691) dL_law_417 (by decide) ?_
      refine V.sub [2, 3, 4, 5, 6] (lo' := [(0, .ref b), (1, .ref (α 0)), (2, .ref mb), (3, .ref ao), (4, .int (nI i))]) rfl ?_
      refine V.widen (k := cells + 20) (n := slots + 4000) (by omega) (by omega) ?_
      exact kk _ be M2 hj2 hlk
    · skip
      refine r_aload_n C 5 dL_law_405 rfl rfl ?_
      refine r_iconst C (v := nI 0) dL_law_406 (by decide) ?_
      refine r_laloadN C hj2.2.2.2.2.1.1 hj2.2.2.2.2.1.2 (by omega) (by omega) dL_law_407 ?_
      refine r_iload C 0 dL_law_408 rfl ?_
      refine r_i2l C dL_law_410 ?_
      have hA := hj.out hlp hpp c402
      have hB := so_i (hpp.2.2.2.2.1 c402).1
      refine r_lcmp_eq C (t := 417) dL_law_411 dL_law_412 (by decide) (fun c412 => ?_) (fun c412 => ?_)
      · skip
        refine r_goto C (t := 2691) dL_law_417 (by decide) ?_
        refine V.sub [2, 3, 4, 5, 6] (lo' := [(0, .ref b), (1, .ref (α 0)), (2, .ref mb), (3, .ref ao), (4, .int (nI i))]) rfl ?_
        refine V.widen (k := cells + 20) (n := slots + 4000) (by omega) (by omega) ?_
        exact kk _ be M2 hj2 hlk
      · exact absurd (by rw [hA, hB]) c412
  · exact absurd rfl c395
set_option maxHeartbeats 1000000 in
set_option maxRecDepth 100000 in
theorem lc_shift (l : Launch) (hfl : l.flags = flags0) {p : Program} {e : Env} {s : State} {m : MethodId} {args : Array Value} {below : List Frame} {meth : Method} {c : Code} {G : gW} (C : Cx p l s m args meth c G RL cL_law 8) (hgX : gX G s s.heap) {b L : Nat} {xs : Nat → Int32} (hX : va_X b L xs s s.heap) (hbl : b < s.heap.size) (hbA : ¬ gA G b) (hL : L ≤ 4096) {i : Nat} (hi : i + 8 ≤ L) {τ : Mu} {α : Nat → Nat} {M : Mem} {q mb ao n9 : Nat} (hj : LJ τ G α M q mb ao) (hk : LK n9 τ) (hn9 : n9 ≤ 600) {cells slots : Nat} (hcs : cells ≤ 500000) (hss : slots ≤ 7000000) {Q : State → Prop} (kk : ∀ U be M2, LJ U G be M2 q mb ao → LK (n9 + 1) U → V p l e room_1 s m args below meth c G Q 8 M2 (cells + 20) (slots + 4000) 2691 [(0, .ref b), (1, .ref q), (2, .ref mb), (3, .ref ao), (4, .int (nI i))] []) : V p l e room_1 s m args below meth c G Q 8 M cells slots 420 [(0, .ref b), (1, .ref q), (2, .ref mb), (3, .ref ao), (4, .int (nI i))] [] := by
  have hj0 := hj
  obtain ⟨hw, ⟨hws, hwt, hwb⟩, ha0, hmt, ⟨hao, hao1⟩, han, hmn, hom⟩ := hj0
  subst ha0
  refine r_aload_n C 1 dL_law_420 rfl rfl ?_
  refine r_aload_n C 0 dL_law_421 rfl rfl ?_
  refine r_iload C 4 dL_law_422 rfl ?_
  refine r_iconst C (v := nI 1) dL_law_424 (by decide) ?_
  refine r_iaddN C dL_law_425 ?_
  refine r_sld C hX hbl hbA hL (i := i + 1) (by omega) dL_law_426 ?_
  refine r_aload_n C 0 dL_law_427 rfl rfl ?_
  refine r_iload C 4 dL_law_428 rfl ?_
  refine r_iconst C (v := nI 2) dL_law_430 (by decide) ?_
  refine r_iaddN C dL_law_431 ?_
  refine r_sld C hX hbl hbA hL (i := i + 2) (by omega) dL_law_432 ?_
  refine r_aload_n C 0 dL_law_433 rfl rfl ?_
  refine r_iload C 4 dL_law_434 rfl ?_
  refine r_iconst C (v := nI 3) dL_law_436 (by decide) ?_
  refine r_iaddN C dL_law_437 ?_
  refine r_sld C hX hbl hbA hL (i := i + 3) (by omega) dL_law_438 ?_
  refine r_aload_n C 0 dL_law_439 rfl rfl ?_
  refine r_iload C 4 dL_law_440 rfl ?_
  refine r_iconst C (v := nI 4) dL_law_442 (by decide) ?_
  refine r_iaddN C dL_law_443 ?_
  refine r_sld C hX hbl hbA hL (i := i + 4) (by omega) dL_law_444 ?_
  refine r_aload_n C 3 dL_law_445 rfl rfl ?_
  refine r_callH C hgX hl_shift (c_L_shift l hfl G M τ hw α hws hwt hwb (hk.ad hn9) (xs (i + 1)) (xs (i + 2)) (xs (i + 3)) (xs (i + 4)) ao hao hao1 han (fun h_ => (lk_shift hw hk hn9 h_).1)) rfl (Nat.le_of_ble_eq_true rfl) (rm_hR (Nat.le_of_ble_eq_true rfl) (Nat.le_of_ble_eq_true rfl)) (rm_hf (by omega) (by omega)) dL_law_446 rfl ?_
  intro v1 M1 hlp0
  obtain ⟨cc, hcc, hlp, hv1⟩ := LPo.ex hlp0
  subst hv1
  clear hlp0
  have hc3 : cc ≤ 3 := by rw [hcc]; exact cd3_le _ _ _
  have hmd := hj.mid hlp
  refine V.eSt (st' := [.int (nI cc)]) rfl ?_
  refine r_istore C (lo' := [(5, .int (nI cc)), (0, .ref b), (1, .ref (α 0)), (2, .ref mb), (3, .ref ao), (4, .int (nI i))]) dL_law_449 (by decide) rfl ?_
  refine r_aload_n C 3 dL_law_451 rfl rfl ?_
  refine r_aload_n C 1 dL_law_452 rfl rfl ?_
  refine r_iload C 5 dL_law_453 rfl ?_
  refine r_iconst C (v := nI 1) dL_law_455 (by decide) ?_
  refine r_iaddN C dL_law_456 ?_
  refine r_sld C hX hbl hbA hL (i := i + 1) (by omega) dL_law_457 ?_
  refine r_aload_n C 1 dL_law_458 rfl rfl ?_
  refine r_iload C 5 dL_law_459 rfl ?_
  refine r_iconst C (v := nI 2) dL_law_461 (by decide) ?_
  refine r_iaddN C dL_law_462 ?_
  refine r_sld C hX hbl hbA hL (i := i + 2) (by omega) dL_law_463 ?_
  refine r_aload_n C 1 dL_law_464 rfl rfl ?_
  refine r_iload C 5 dL_law_465 rfl ?_
  refine r_iconst C (v := nI 3) dL_law_467 (by decide) ?_
  refine r_iaddN C dL_law_468 ?_
  refine r_sld C hX hbl hbA hL (i := i + 3) (by omega) dL_law_469 ?_
  refine r_aload_n C 1 dL_law_470 rfl rfl ?_
  refine r_iload C 5 dL_law_471 rfl ?_
  refine r_iconst C (v := nI 4) dL_law_473 (by decide) ?_
  refine r_iaddN C dL_law_474 ?_
  refine r_sld C hX hbl hbA hL (i := i + 4) (by omega) dL_law_475 ?_
  refine r_callV C hgX (ci := 14) ml_L_148 im_X12_shift se_X12_shift rfl rfl hmd.1.1 (c_X12_shift l hfl G M1 mb τ hmd.1 hmd.2.1 hw hmd.2.2.1 hmd.2.2.2 (xs (i + 1)) (xs (i + 2)) (xs (i + 3)) (xs (i + 4))) rfl (Nat.le_of_ble_eq_true rfl) (rm_hR (Nat.le_of_ble_eq_true rfl) (Nat.le_of_ble_eq_true rfl)) (rm_hf (by omega) (by omega)) dL_law_476 rfl ?_
  intro v2 M2 hpp0
  have hpp := PP.ex hcc hpp0
  clear hpp0
  obtain ⟨be, hj2, hlk⟩ := hj.step2 (n := n9 + 1) (fun h_ => lk_shift hw hk hn9 (hcc.symm.trans h_)) hk.up hlp hpp
  obtain ⟨x2, hx2⟩ := hpp.2.2.2.2.2
  subst hx2
  refine V.eSt (st' := [.int x2]) rfl ?_
  refine r_istore C (lo' := [(6, .int x2), (5, .int (nI cc)), (0, .ref b), (1, .ref (α 0)), (2, .ref mb), (3, .ref ao), (4, .int (nI i))]) dL_law_479 (by decide) rfl ?_
  refine r_aload_n C 4 dL_law_481 rfl rfl ?_
  refine r_callV C hgX (ci := 14) ml_L_138 im_X12_thrown se_X12_thrown rfl rfl hj2.2.2.2.1.1.1 (c_X12_thrown l hfl G M2 mb hj2.2.2.2.1.1) rfl (Nat.le_of_ble_eq_true rfl) (rm_hR (Nat.le_of_ble_eq_true rfl) (Nat.le_of_ble_eq_true rfl)) (rm_hf (by omega) (by omega)) dL_law_482 rfl ?_
  intro v3 M3 h3
  obtain ⟨hv3, hM3⟩ := h3
  subst hv3
  subst hM3
  refine V.eSt (st' := [.int (nI cc)]) (congrArg (fun z_ => [Value.int z_]) hpp.1) ?_
  refine r_iload C 1 dL_law_485 rfl ?_
  refine r_icmp_eqN C (t := 492) (by omega) (by omega) dL_law_487 (by decide) (fun c487 => ?_) (fun c487 => ?_)
  · skip
    refine r_iload C 1 dL_law_492 rfl ?_
    refine r_if_neN C (t := 509) (by omega) dL_law_494 (by decide) (fun c494 => ?_) (fun c494 => ?_)
    · skip
      refine r_goto C (t := 2691) dL_law_509 (by decide) ?_
      refine V.sub [2, 3, 4, 5, 6] (lo' := [(0, .ref b), (1, .ref (α 0)), (2, .ref mb), (3, .ref ao), (4, .int (nI i))]) rfl ?_
      refine V.widen (k := cells + 20) (n := slots + 4000) (by omega) (by omega) ?_
      exact kk _ be M2 hj2 hlk
    · skip
      refine r_aload_n C 5 dL_law_497 rfl rfl ?_
      refine r_iconst C (v := nI 0) dL_law_498 (by decide) ?_
      refine r_laloadN C hj2.2.2.2.2.1.1 hj2.2.2.2.2.1.2 (by omega) (by omega) dL_law_499 ?_
      refine r_iload C 0 dL_law_500 rfl ?_
      refine r_i2l C dL_law_502 ?_
      have hA := hj.out hlp hpp c494
      have hB := so_i (hpp.2.2.2.2.1 c494).1
      refine r_lcmp_eq C (t := 509) dL_law_503 dL_law_504 (by decide) (fun c504 => ?_) (fun c504 => ?_)
      · skip
        refine r_goto C (t := 2691) dL_law_509 (by decide) ?_
        refine V.sub [2, 3, 4, 5, 6] (lo' := [(0, .ref b), (1, .ref (α 0)), (2, .ref mb), (3, .ref ao), (4, .int (nI i))]) rfl ?_
        refine V.widen (k := cells + 20) (n := slots + 4000) (by omega) (by omega) ?_
        exact kk _ be M2 hj2 hlk
      · exact absurd (by rw [hA, hB]) c504
  · exact absurd rfl c487
set_option maxHeartbeats 1000000 in
set_option maxRecDepth 100000 in
theorem lc_minutes (l : Launch) (hfl : l.flags = flags0) {p : Program} {e : Env} {s : State} {m : MethodId} {args : Array Value} {below : List Frame} {meth : Method} {c : Code} {G : gW} (C : Cx p l s m args meth c G RL cL_law 8) (hgX : gX G s s.heap) {b L : Nat} {xs : Nat → Int32} (hX : va_X b L xs s s.heap) (hbl : b < s.heap.size) (hbA : ¬ gA G b) (hL : L ≤ 4096) {i : Nat} (hi : i + 8 ≤ L) {τ : Mu} {α : Nat → Nat} {M : Mem} {q mb ao n9 : Nat} (hj : LJ τ G α M q mb ao) (hk : LK n9 τ) (hn9 : n9 ≤ 600) {cells slots : Nat} (hcs : cells ≤ 500000) (hss : slots ≤ 7000000) {Q : State → Prop} (kk : ∀ U be M2, LJ U G be M2 q mb ao → LK (n9 + 1) U → V p l e room_1 s m args below meth c G Q 8 M2 (cells + 20) (slots + 4000) 2691 [(0, .ref b), (1, .ref q), (2, .ref mb), (3, .ref ao), (4, .int (nI i))] []) : V p l e room_1 s m args below meth c G Q 8 M cells slots 512 [(0, .ref b), (1, .ref q), (2, .ref mb), (3, .ref ao), (4, .int (nI i))] [] := by
  have hj0 := hj
  obtain ⟨hw, ⟨hws, hwt, hwb⟩, ha0, hmt, ⟨hao, hao1⟩, han, hmn, hom⟩ := hj0
  subst ha0
  refine r_aload_n C 1 dL_law_512 rfl rfl ?_
  refine r_aload_n C 0 dL_law_513 rfl rfl ?_
  refine r_iload C 4 dL_law_514 rfl ?_
  refine r_iconst C (v := nI 1) dL_law_516 (by decide) ?_
  refine r_iaddN C dL_law_517 ?_
  refine r_sld C hX hbl hbA hL (i := i + 1) (by omega) dL_law_518 ?_
  refine r_aload_n C 0 dL_law_519 rfl rfl ?_
  refine r_iload C 4 dL_law_520 rfl ?_
  refine r_iconst C (v := nI 2) dL_law_522 (by decide) ?_
  refine r_iaddN C dL_law_523 ?_
  refine r_sld C hX hbl hbA hL (i := i + 2) (by omega) dL_law_524 ?_
  refine r_aload_n C 3 dL_law_525 rfl rfl ?_
  refine r_callH C hgX hl_minutes (c_L_minutes l hfl G M τ hw α hws hwt hwb (hk.ad hn9) (xs (i + 1)) (xs (i + 2)) ao hao hao1 han (fun _ => hw)) rfl (Nat.le_of_ble_eq_true rfl) (rm_hR (Nat.le_of_ble_eq_true rfl) (Nat.le_of_ble_eq_true rfl)) (rm_hf (by omega) (by omega)) dL_law_526 rfl ?_
  intro v1 M1 hlp0
  obtain ⟨cc, hcc, hlp, hv1⟩ := LPo.ex hlp0
  subst hv1
  clear hlp0
  have hc3 : cc ≤ 3 := by rw [hcc]; exact cd1_le _
  have hmd := hj.mid hlp
  refine V.eSt (st' := [.int (nI cc)]) rfl ?_
  refine r_istore C (lo' := [(5, .int (nI cc)), (0, .ref b), (1, .ref (α 0)), (2, .ref mb), (3, .ref ao), (4, .int (nI i))]) dL_law_529 (by decide) rfl ?_
  refine r_aload_n C 3 dL_law_531 rfl rfl ?_
  refine r_aload_n C 1 dL_law_532 rfl rfl ?_
  refine r_iload C 5 dL_law_533 rfl ?_
  refine r_iconst C (v := nI 1) dL_law_535 (by decide) ?_
  refine r_iaddN C dL_law_536 ?_
  refine r_sld C hX hbl hbA hL (i := i + 1) (by omega) dL_law_537 ?_
  refine r_aload_n C 1 dL_law_538 rfl rfl ?_
  refine r_iload C 5 dL_law_539 rfl ?_
  refine r_iconst C (v := nI 2) dL_law_541 (by decide) ?_
  refine r_iaddN C dL_law_542 ?_
  refine r_sld C hX hbl hbA hL (i := i + 2) (by omega) dL_law_543 ?_
  refine r_callV C hgX (ci := 14) ml_L_152 im_X12_minutes se_X12_minutes rfl rfl hmd.1.1 (c_X12_minutes l hfl G M1 mb τ hmd.1 hmd.2.1 hw hmd.2.2.1 hmd.2.2.2 (xs (i + 1)) (xs (i + 2))) rfl (Nat.le_of_ble_eq_true rfl) (rm_hR (Nat.le_of_ble_eq_true rfl) (Nat.le_of_ble_eq_true rfl)) (rm_hf (by omega) (by omega)) dL_law_544 rfl ?_
  intro v2 M2 hpp0
  have hpp := PP.ex hcc hpp0
  clear hpp0
  obtain ⟨be, hj2, hlk⟩ := hj.step2 (n := n9 + 1) (fun _ => ⟨hw, hk.up⟩) hk.up hlp hpp
  obtain ⟨x2, hx2⟩ := hpp.2.2.2.2.2
  subst hx2
  refine V.eSt (st' := [.int x2]) rfl ?_
  refine r_istore C (lo' := [(6, .int x2), (5, .int (nI cc)), (0, .ref b), (1, .ref (α 0)), (2, .ref mb), (3, .ref ao), (4, .int (nI i))]) dL_law_547 (by decide) rfl ?_
  refine r_aload_n C 4 dL_law_549 rfl rfl ?_
  refine r_callV C hgX (ci := 14) ml_L_138 im_X12_thrown se_X12_thrown rfl rfl hj2.2.2.2.1.1.1 (c_X12_thrown l hfl G M2 mb hj2.2.2.2.1.1) rfl (Nat.le_of_ble_eq_true rfl) (rm_hR (Nat.le_of_ble_eq_true rfl) (Nat.le_of_ble_eq_true rfl)) (rm_hf (by omega) (by omega)) dL_law_550 rfl ?_
  intro v3 M3 h3
  obtain ⟨hv3, hM3⟩ := h3
  subst hv3
  subst hM3
  refine V.eSt (st' := [.int (nI cc)]) (congrArg (fun z_ => [Value.int z_]) hpp.1) ?_
  refine r_iload C 1 dL_law_553 rfl ?_
  refine r_icmp_eqN C (t := 560) (by omega) (by omega) dL_law_555 (by decide) (fun c555 => ?_) (fun c555 => ?_)
  · skip
    refine r_iload C 1 dL_law_560 rfl ?_
    refine r_if_neN C (t := 577) (by omega) dL_law_562 (by decide) (fun c562 => ?_) (fun c562 => ?_)
    · skip
      refine r_goto C (t := 2691) dL_law_577 (by decide) ?_
      refine V.sub [2, 3, 4, 5, 6] (lo' := [(0, .ref b), (1, .ref (α 0)), (2, .ref mb), (3, .ref ao), (4, .int (nI i))]) rfl ?_
      refine V.widen (k := cells + 20) (n := slots + 4000) (by omega) (by omega) ?_
      exact kk _ be M2 hj2 hlk
    · skip
      refine r_aload_n C 5 dL_law_565 rfl rfl ?_
      refine r_iconst C (v := nI 0) dL_law_566 (by decide) ?_
      refine r_laloadN C hj2.2.2.2.2.1.1 hj2.2.2.2.2.1.2 (by omega) (by omega) dL_law_567 ?_
      refine r_iload C 0 dL_law_568 rfl ?_
      refine r_i2l C dL_law_570 ?_
      have hA := hj.out hlp hpp c562
      have hB := so_i (hpp.2.2.2.2.1 c562).1
      refine r_lcmp_eq C (t := 577) dL_law_571 dL_law_572 (by decide) (fun c572 => ?_) (fun c572 => ?_)
      · skip
        refine r_goto C (t := 2691) dL_law_577 (by decide) ?_
        refine V.sub [2, 3, 4, 5, 6] (lo' := [(0, .ref b), (1, .ref (α 0)), (2, .ref mb), (3, .ref ao), (4, .int (nI i))]) rfl ?_
        refine V.widen (k := cells + 20) (n := slots + 4000) (by omega) (by omega) ?_
        exact kk _ be M2 hj2 hlk
      · exact absurd (by rw [hA, hB]) c572
  · exact absurd rfl c555
set_option maxHeartbeats 1000000 in
set_option maxRecDepth 100000 in
theorem lc_overtime (l : Launch) (hfl : l.flags = flags0) {p : Program} {e : Env} {s : State} {m : MethodId} {args : Array Value} {below : List Frame} {meth : Method} {c : Code} {G : gW} (C : Cx p l s m args meth c G RL cL_law 8) (hgX : gX G s s.heap) {b L : Nat} {xs : Nat → Int32} (hX : va_X b L xs s s.heap) (hbl : b < s.heap.size) (hbA : ¬ gA G b) (hL : L ≤ 4096) {i : Nat} (hi : i + 8 ≤ L) {τ : Mu} {α : Nat → Nat} {M : Mem} {q mb ao n9 : Nat} (hj : LJ τ G α M q mb ao) (hk : LK n9 τ) (hn9 : n9 ≤ 600) {cells slots : Nat} (hcs : cells ≤ 500000) (hss : slots ≤ 7000000) {Q : State → Prop} (kk : ∀ U be M2, LJ U G be M2 q mb ao → LK (n9 + 1) U → V p l e room_1 s m args below meth c G Q 8 M2 (cells + 20) (slots + 4000) 2691 [(0, .ref b), (1, .ref q), (2, .ref mb), (3, .ref ao), (4, .int (nI i))] []) : V p l e room_1 s m args below meth c G Q 8 M cells slots 580 [(0, .ref b), (1, .ref q), (2, .ref mb), (3, .ref ao), (4, .int (nI i))] [] := by
  have hj0 := hj
  obtain ⟨hw, ⟨hws, hwt, hwb⟩, ha0, hmt, ⟨hao, hao1⟩, han, hmn, hom⟩ := hj0
  subst ha0
  refine r_aload_n C 1 dL_law_580 rfl rfl ?_
  refine r_aload_n C 0 dL_law_581 rfl rfl ?_
  refine r_iload C 4 dL_law_582 rfl ?_
  refine r_iconst C (v := nI 1) dL_law_584 (by decide) ?_
  refine r_iaddN C dL_law_585 ?_
  refine r_sld C hX hbl hbA hL (i := i + 1) (by omega) dL_law_586 ?_
  refine r_aload_n C 0 dL_law_587 rfl rfl ?_
  refine r_iload C 4 dL_law_588 rfl ?_
  refine r_iconst C (v := nI 2) dL_law_590 (by decide) ?_
  refine r_iaddN C dL_law_591 ?_
  refine r_sld C hX hbl hbA hL (i := i + 2) (by omega) dL_law_592 ?_
  refine r_aload_n C 3 dL_law_593 rfl rfl ?_
  refine r_callH C hgX hl_overtime (c_L_overtime l hfl G M τ hw α hws hwt hwb (hk.ad hn9) (xs (i + 1)) (xs (i + 2)) ao hao hao1 han (fun _ => hw)) rfl (Nat.le_of_ble_eq_true rfl) (rm_hR (Nat.le_of_ble_eq_true rfl) (Nat.le_of_ble_eq_true rfl)) (rm_hf (by omega) (by omega)) dL_law_594 rfl ?_
  intro v1 M1 hlp0
  obtain ⟨cc, hcc, hlp, hv1⟩ := LPo.ex hlp0
  subst hv1
  clear hlp0
  have hc3 : cc ≤ 3 := by rw [hcc]; exact cd1_le _
  have hmd := hj.mid hlp
  refine V.eSt (st' := [.int (nI cc)]) rfl ?_
  refine r_istore C (lo' := [(5, .int (nI cc)), (0, .ref b), (1, .ref (α 0)), (2, .ref mb), (3, .ref ao), (4, .int (nI i))]) dL_law_597 (by decide) rfl ?_
  refine r_aload_n C 3 dL_law_599 rfl rfl ?_
  refine r_aload_n C 1 dL_law_600 rfl rfl ?_
  refine r_iload C 5 dL_law_601 rfl ?_
  refine r_iconst C (v := nI 1) dL_law_603 (by decide) ?_
  refine r_iaddN C dL_law_604 ?_
  refine r_sld C hX hbl hbA hL (i := i + 1) (by omega) dL_law_605 ?_
  refine r_aload_n C 1 dL_law_606 rfl rfl ?_
  refine r_iload C 5 dL_law_607 rfl ?_
  refine r_iconst C (v := nI 2) dL_law_609 (by decide) ?_
  refine r_iaddN C dL_law_610 ?_
  refine r_sld C hX hbl hbA hL (i := i + 2) (by omega) dL_law_611 ?_
  refine r_callV C hgX (ci := 14) ml_L_155 im_X12_overtime se_X12_overtime rfl rfl hmd.1.1 (c_X12_overtime l hfl G M1 mb τ hmd.1 hmd.2.1 hw hmd.2.2.1 hmd.2.2.2 (xs (i + 1)) (xs (i + 2))) rfl (Nat.le_of_ble_eq_true rfl) (rm_hR (Nat.le_of_ble_eq_true rfl) (Nat.le_of_ble_eq_true rfl)) (rm_hf (by omega) (by omega)) dL_law_612 rfl ?_
  intro v2 M2 hpp0
  have hpp := PP.ex hcc hpp0
  clear hpp0
  obtain ⟨be, hj2, hlk⟩ := hj.step2 (n := n9 + 1) (fun _ => ⟨hw, hk.up⟩) hk.up hlp hpp
  obtain ⟨x2, hx2⟩ := hpp.2.2.2.2.2
  subst hx2
  refine V.eSt (st' := [.int x2]) rfl ?_
  refine r_istore C (lo' := [(6, .int x2), (5, .int (nI cc)), (0, .ref b), (1, .ref (α 0)), (2, .ref mb), (3, .ref ao), (4, .int (nI i))]) dL_law_615 (by decide) rfl ?_
  refine r_aload_n C 4 dL_law_617 rfl rfl ?_
  refine r_callV C hgX (ci := 14) ml_L_138 im_X12_thrown se_X12_thrown rfl rfl hj2.2.2.2.1.1.1 (c_X12_thrown l hfl G M2 mb hj2.2.2.2.1.1) rfl (Nat.le_of_ble_eq_true rfl) (rm_hR (Nat.le_of_ble_eq_true rfl) (Nat.le_of_ble_eq_true rfl)) (rm_hf (by omega) (by omega)) dL_law_618 rfl ?_
  intro v3 M3 h3
  obtain ⟨hv3, hM3⟩ := h3
  subst hv3
  subst hM3
  refine V.eSt (st' := [.int (nI cc)]) (congrArg (fun z_ => [Value.int z_]) hpp.1) ?_
  refine r_iload C 1 dL_law_621 rfl ?_
  refine r_icmp_eqN C (t := 628) (by omega) (by omega) dL_law_623 (by decide) (fun c623 => ?_) (fun c623 => ?_)
  · skip
    refine r_iload C 1 dL_law_628 rfl ?_
    refine r_if_neN C (t := 645) (by omega) dL_law_630 (by decide) (fun c630 => ?_) (fun c630 => ?_)
    · skip
      refine r_goto C (t := 2691) dL_law_645 (by decide) ?_
      refine V.sub [2, 3, 4, 5, 6] (lo' := [(0, .ref b), (1, .ref (α 0)), (2, .ref mb), (3, .ref ao), (4, .int (nI i))]) rfl ?_
      refine V.widen (k := cells + 20) (n := slots + 4000) (by omega) (by omega) ?_
      exact kk _ be M2 hj2 hlk
    · skip
      refine r_aload_n C 5 dL_law_633 rfl rfl ?_
      refine r_iconst C (v := nI 0) dL_law_634 (by decide) ?_
      refine r_laloadN C hj2.2.2.2.2.1.1 hj2.2.2.2.2.1.2 (by omega) (by omega) dL_law_635 ?_
      refine r_iload C 0 dL_law_636 rfl ?_
      refine r_i2l C dL_law_638 ?_
      have hA := hj.out hlp hpp c630
      have hB := so_i (hpp.2.2.2.2.1 c630).1
      refine r_lcmp_eq C (t := 645) dL_law_639 dL_law_640 (by decide) (fun c640 => ?_) (fun c640 => ?_)
      · skip
        refine r_goto C (t := 2691) dL_law_645 (by decide) ?_
        refine V.sub [2, 3, 4, 5, 6] (lo' := [(0, .ref b), (1, .ref (α 0)), (2, .ref mb), (3, .ref ao), (4, .int (nI i))]) rfl ?_
        refine V.widen (k := cells + 20) (n := slots + 4000) (by omega) (by omega) ?_
        exact kk _ be M2 hj2 hlk
      · exact absurd (by rw [hA, hB]) c640
  · exact absurd rfl c623
set_option maxHeartbeats 1000000 in
set_option maxRecDepth 100000 in
theorem lc_base (l : Launch) (hfl : l.flags = flags0) {p : Program} {e : Env} {s : State} {m : MethodId} {args : Array Value} {below : List Frame} {meth : Method} {c : Code} {G : gW} (C : Cx p l s m args meth c G RL cL_law 8) (hgX : gX G s s.heap) {b L : Nat} {xs : Nat → Int32} (hX : va_X b L xs s s.heap) (hbl : b < s.heap.size) (hbA : ¬ gA G b) (hL : L ≤ 4096) {i : Nat} (hi : i + 8 ≤ L) {τ : Mu} {α : Nat → Nat} {M : Mem} {q mb ao n9 : Nat} (hj : LJ τ G α M q mb ao) (hk : LK n9 τ) (hn9 : n9 ≤ 600) {cells slots : Nat} (hcs : cells ≤ 500000) (hss : slots ≤ 7000000) {Q : State → Prop} (kk : ∀ U be M2, LJ U G be M2 q mb ao → LK (n9 + 1) U → V p l e room_1 s m args below meth c G Q 8 M2 (cells + 20) (slots + 4000) 2691 [(0, .ref b), (1, .ref q), (2, .ref mb), (3, .ref ao), (4, .int (nI i))] []) : V p l e room_1 s m args below meth c G Q 8 M cells slots 648 [(0, .ref b), (1, .ref q), (2, .ref mb), (3, .ref ao), (4, .int (nI i))] [] := by
  have hj0 := hj
  obtain ⟨hw, ⟨hws, hwt, hwb⟩, ha0, hmt, ⟨hao, hao1⟩, han, hmn, hom⟩ := hj0
  subst ha0
  refine r_aload_n C 1 dL_law_648 rfl rfl ?_
  refine r_aload_n C 0 dL_law_649 rfl rfl ?_
  refine r_iload C 4 dL_law_650 rfl ?_
  refine r_iconst C (v := nI 1) dL_law_652 (by decide) ?_
  refine r_iaddN C dL_law_653 ?_
  refine r_sld C hX hbl hbA hL (i := i + 1) (by omega) dL_law_654 ?_
  refine r_aload_n C 0 dL_law_655 rfl rfl ?_
  refine r_iload C 4 dL_law_656 rfl ?_
  refine r_iconst C (v := nI 2) dL_law_658 (by decide) ?_
  refine r_iaddN C dL_law_659 ?_
  refine r_sld C hX hbl hbA hL (i := i + 2) (by omega) dL_law_660 ?_
  refine r_aload_n C 3 dL_law_661 rfl rfl ?_
  refine r_callH C hgX hl_base (c_L_base l hfl G M τ hw α hws hwt hwb (hk.ad hn9) (xs (i + 1)) (xs (i + 2)) ao hao hao1 han (fun _ => hw)) rfl (Nat.le_of_ble_eq_true rfl) (rm_hR (Nat.le_of_ble_eq_true rfl) (Nat.le_of_ble_eq_true rfl)) (rm_hf (by omega) (by omega)) dL_law_662 rfl ?_
  intro v1 M1 hlp0
  obtain ⟨cc, hcc, hlp, hv1⟩ := LPo.ex hlp0
  subst hv1
  clear hlp0
  have hc3 : cc ≤ 3 := by rw [hcc]; exact cd1_le _
  have hmd := hj.mid hlp
  refine V.eSt (st' := [.int (nI cc)]) rfl ?_
  refine r_istore C (lo' := [(5, .int (nI cc)), (0, .ref b), (1, .ref (α 0)), (2, .ref mb), (3, .ref ao), (4, .int (nI i))]) dL_law_665 (by decide) rfl ?_
  refine r_aload_n C 3 dL_law_667 rfl rfl ?_
  refine r_aload_n C 1 dL_law_668 rfl rfl ?_
  refine r_iload C 5 dL_law_669 rfl ?_
  refine r_iconst C (v := nI 1) dL_law_671 (by decide) ?_
  refine r_iaddN C dL_law_672 ?_
  refine r_sld C hX hbl hbA hL (i := i + 1) (by omega) dL_law_673 ?_
  refine r_aload_n C 1 dL_law_674 rfl rfl ?_
  refine r_iload C 5 dL_law_675 rfl ?_
  refine r_iconst C (v := nI 2) dL_law_677 (by decide) ?_
  refine r_iaddN C dL_law_678 ?_
  refine r_sld C hX hbl hbA hL (i := i + 2) (by omega) dL_law_679 ?_
  refine r_callV C hgX (ci := 14) ml_L_158 im_X12_base se_X12_base rfl rfl hmd.1.1 (c_X12_base l hfl G M1 mb τ hmd.1 hmd.2.1 hw hmd.2.2.1 hmd.2.2.2 (xs (i + 1)) (xs (i + 2))) rfl (Nat.le_of_ble_eq_true rfl) (rm_hR (Nat.le_of_ble_eq_true rfl) (Nat.le_of_ble_eq_true rfl)) (rm_hf (by omega) (by omega)) dL_law_680 rfl ?_
  intro v2 M2 hpp0
  have hpp := PP.ex hcc hpp0
  clear hpp0
  obtain ⟨be, hj2, hlk⟩ := hj.step2 (n := n9 + 1) (fun _ => ⟨hw, hk.up⟩) hk.up hlp hpp
  obtain ⟨x2, hx2⟩ := hpp.2.2.2.2.2
  subst hx2
  refine V.eSt (st' := [.long x2]) rfl ?_
  refine r_lstore C (lo' := [(6, .long x2), (5, .int (nI cc)), (0, .ref b), (1, .ref (α 0)), (2, .ref mb), (3, .ref ao), (4, .int (nI i))]) dL_law_683 (by decide) rfl ?_
  refine r_aload_n C 4 dL_law_685 rfl rfl ?_
  refine r_callV C hgX (ci := 14) ml_L_138 im_X12_thrown se_X12_thrown rfl rfl hj2.2.2.2.1.1.1 (c_X12_thrown l hfl G M2 mb hj2.2.2.2.1.1) rfl (Nat.le_of_ble_eq_true rfl) (rm_hR (Nat.le_of_ble_eq_true rfl) (Nat.le_of_ble_eq_true rfl)) (rm_hf (by omega) (by omega)) dL_law_686 rfl ?_
  intro v3 M3 h3
  obtain ⟨hv3, hM3⟩ := h3
  subst hv3
  subst hM3
  refine V.eSt (st' := [.int (nI cc)]) (congrArg (fun z_ => [Value.int z_]) hpp.1) ?_
  refine r_iload C 1 dL_law_689 rfl ?_
  refine r_icmp_eqN C (t := 696) (by omega) (by omega) dL_law_691 (by decide) (fun c691 => ?_) (fun c691 => ?_)
  · skip
    refine r_iload C 1 dL_law_696 rfl ?_
    refine r_if_neN C (t := 712) (by omega) dL_law_698 (by decide) (fun c698 => ?_) (fun c698 => ?_)
    · skip
      refine r_goto C (t := 2691) dL_law_712 (by decide) ?_
      refine V.sub [2, 3, 4, 5, 6] (lo' := [(0, .ref b), (1, .ref (α 0)), (2, .ref mb), (3, .ref ao), (4, .int (nI i))]) rfl ?_
      refine V.widen (k := cells + 20) (n := slots + 4000) (by omega) (by omega) ?_
      exact kk _ be M2 hj2 hlk
    · skip
      refine r_aload_n C 5 dL_law_701 rfl rfl ?_
      refine r_iconst C (v := nI 0) dL_law_702 (by decide) ?_
      refine r_laloadN C hj2.2.2.2.2.1.1 hj2.2.2.2.2.1.2 (by omega) (by omega) dL_law_703 ?_
      refine r_lload C 0 dL_law_704 rfl ?_
      have hA := hj.out hlp hpp c698
      have hB := so_l (hpp.2.2.2.2.1 c698).1
      refine r_lcmp_eq C (t := 712) dL_law_706 dL_law_707 (by decide) (fun c707 => ?_) (fun c707 => ?_)
      · skip
        refine r_goto C (t := 2691) dL_law_712 (by decide) ?_
        refine V.sub [2, 3, 4, 5, 6] (lo' := [(0, .ref b), (1, .ref (α 0)), (2, .ref mb), (3, .ref ao), (4, .int (nI i))]) rfl ?_
        refine V.widen (k := cells + 20) (n := slots + 4000) (by omega) (by omega) ?_
        exact kk _ be M2 hj2 hlk
      · exact absurd (by rw [hA, hB]) c707
  · exact absurd rfl c691
set_option maxHeartbeats 1000000 in
set_option maxRecDepth 100000 in
theorem lc_leaveRule (l : Launch) (hfl : l.flags = flags0) {p : Program} {e : Env} {s : State} {m : MethodId} {args : Array Value} {below : List Frame} {meth : Method} {c : Code} {G : gW} (C : Cx p l s m args meth c G RL cL_law 8) (hgX : gX G s s.heap) {b L : Nat} {xs : Nat → Int32} (hX : va_X b L xs s s.heap) (hbl : b < s.heap.size) (hbA : ¬ gA G b) (hL : L ≤ 4096) {i : Nat} (hi : i + 8 ≤ L) {τ : Mu} {α : Nat → Nat} {M : Mem} {q mb ao n9 : Nat} (hj : LJ τ G α M q mb ao) (hk : LK n9 τ) (hn9 : n9 ≤ 600) {cells slots : Nat} (hcs : cells ≤ 500000) (hss : slots ≤ 7000000) {Q : State → Prop} (kk : ∀ U be M2, LJ U G be M2 q mb ao → LK (n9 + 1) U → V p l e room_1 s m args below meth c G Q 8 M2 (cells + 20) (slots + 4000) 2691 [(0, .ref b), (1, .ref q), (2, .ref mb), (3, .ref ao), (4, .int (nI i))] []) : V p l e room_1 s m args below meth c G Q 8 M cells slots 715 [(0, .ref b), (1, .ref q), (2, .ref mb), (3, .ref ao), (4, .int (nI i))] [] := by
  have hj0 := hj
  obtain ⟨hw, ⟨hws, hwt, hwb⟩, ha0, hmt, ⟨hao, hao1⟩, han, hmn, hom⟩ := hj0
  subst ha0
  refine r_aload_n C 1 dL_law_715 rfl rfl ?_
  refine r_aload_n C 0 dL_law_716 rfl rfl ?_
  refine r_iload C 4 dL_law_717 rfl ?_
  refine r_iconst C (v := nI 1) dL_law_719 (by decide) ?_
  refine r_iaddN C dL_law_720 ?_
  refine r_sld C hX hbl hbA hL (i := i + 1) (by omega) dL_law_721 ?_
  refine r_aload_n C 0 dL_law_722 rfl rfl ?_
  refine r_iload C 4 dL_law_723 rfl ?_
  refine r_iconst C (v := nI 2) dL_law_725 (by decide) ?_
  refine r_iaddN C dL_law_726 ?_
  refine r_sld C hX hbl hbA hL (i := i + 2) (by omega) dL_law_727 ?_
  refine r_aload_n C 0 dL_law_728 rfl rfl ?_
  refine r_iload C 4 dL_law_729 rfl ?_
  refine r_iconst C (v := nI 3) dL_law_731 (by decide) ?_
  refine r_iaddN C dL_law_732 ?_
  refine r_sld C hX hbl hbA hL (i := i + 3) (by omega) dL_law_733 ?_
  refine r_callH C hgX hl_leaveRule (c_L_leaveRule l hfl G M τ hw α hws hwt hwb (hk.ad hn9) (xs (i + 1)) (xs (i + 2)) (xs (i + 3)) ao (fun h_ => (lk_leaveRule hw hk hn9 h_).1)) rfl (Nat.le_of_ble_eq_true rfl) (rm_hR (Nat.le_of_ble_eq_true rfl) (Nat.le_of_ble_eq_true rfl)) (rm_hf (by omega) (by omega)) dL_law_734 rfl ?_
  intro v1 M1 hlp0
  obtain ⟨cc, hcc, hlp, hv1⟩ := LPo.ex hlp0
  subst hv1
  clear hlp0
  have hc3 : cc ≤ 3 := by rw [hcc]; exact cd1_le _
  have hmd := hj.mid hlp
  refine V.eSt (st' := [.int (nI cc)]) rfl ?_
  refine r_istore C (lo' := [(5, .int (nI cc)), (0, .ref b), (1, .ref (α 0)), (2, .ref mb), (3, .ref ao), (4, .int (nI i))]) dL_law_737 (by decide) rfl ?_
  refine r_aload_n C 3 dL_law_739 rfl rfl ?_
  refine r_aload_n C 1 dL_law_740 rfl rfl ?_
  refine r_iload C 5 dL_law_741 rfl ?_
  refine r_iconst C (v := nI 1) dL_law_743 (by decide) ?_
  refine r_iaddN C dL_law_744 ?_
  refine r_sld C hX hbl hbA hL (i := i + 1) (by omega) dL_law_745 ?_
  refine r_aload_n C 1 dL_law_746 rfl rfl ?_
  refine r_iload C 5 dL_law_747 rfl ?_
  refine r_iconst C (v := nI 2) dL_law_749 (by decide) ?_
  refine r_iaddN C dL_law_750 ?_
  refine r_sld C hX hbl hbA hL (i := i + 2) (by omega) dL_law_751 ?_
  refine r_aload_n C 1 dL_law_752 rfl rfl ?_
  refine r_iload C 5 dL_law_753 rfl ?_
  refine r_iconst C (v := nI 3) dL_law_755 (by decide) ?_
  refine r_iaddN C dL_law_756 ?_
  refine r_sld C hX hbl hbA hL (i := i + 3) (by omega) dL_law_757 ?_
  refine r_callV C hgX (ci := 14) ml_L_162 im_X12_leaveRule se_X12_leaveRule rfl rfl hmd.1.1 (c_X12_leaveRule l hfl G M1 mb τ hmd.1 hmd.2.1 hw hmd.2.2.1 hmd.2.2.2 (xs (i + 1)) (xs (i + 2)) (xs (i + 3))) rfl (Nat.le_of_ble_eq_true rfl) (rm_hR (Nat.le_of_ble_eq_true rfl) (Nat.le_of_ble_eq_true rfl)) (rm_hf (by omega) (by omega)) dL_law_758 rfl ?_
  intro v2 M2 hpp0
  have hpp := PP.ex hcc hpp0
  clear hpp0
  obtain ⟨be, hj2, hlk⟩ := hj.step2 (n := n9 + 1) (fun h_ => lk_leaveRule hw hk hn9 (hcc.symm.trans h_)) hk.up hlp hpp
  have hx2 : v2 = none := hpp.2.2.2.2.2
  subst hx2
  refine V.eSt (st' := []) rfl ?_
  refine r_aload_n C 3 dL_law_761 rfl rfl ?_
  refine r_callV C hgX (ci := 14) ml_L_138 im_X12_thrown se_X12_thrown rfl rfl hj2.2.2.2.1.1.1 (c_X12_thrown l hfl G M2 mb hj2.2.2.2.1.1) rfl (Nat.le_of_ble_eq_true rfl) (rm_hR (Nat.le_of_ble_eq_true rfl) (Nat.le_of_ble_eq_true rfl)) (rm_hf (by omega) (by omega)) dL_law_762 rfl ?_
  intro v3 M3 h3
  obtain ⟨hv3, hM3⟩ := h3
  subst hv3
  subst hM3
  refine V.eSt (st' := [.int (nI cc)]) (congrArg (fun z_ => [Value.int z_]) hpp.1) ?_
  refine r_iload C 0 dL_law_765 rfl ?_
  refine r_icmp_eqN C (t := 772) (by omega) (by omega) dL_law_767 (by decide) (fun c767 => ?_) (fun c767 => ?_)
  · skip
    refine r_goto C (t := 2691) dL_law_772 (by decide) ?_
    refine V.sub [1, 2, 3, 4, 5] (lo' := [(0, .ref b), (1, .ref (α 0)), (2, .ref mb), (3, .ref ao), (4, .int (nI i))]) rfl ?_
    refine V.widen (k := cells + 20) (n := slots + 4000) (by omega) (by omega) ?_
    exact kk _ be M2 hj2 hlk
  · exact absurd rfl c767
set_option maxHeartbeats 1000000 in
set_option maxRecDepth 100000 in
theorem lc_leave (l : Launch) (hfl : l.flags = flags0) {p : Program} {e : Env} {s : State} {m : MethodId} {args : Array Value} {below : List Frame} {meth : Method} {c : Code} {G : gW} (C : Cx p l s m args meth c G RL cL_law 8) (hgX : gX G s s.heap) {b L : Nat} {xs : Nat → Int32} (hX : va_X b L xs s s.heap) (hbl : b < s.heap.size) (hbA : ¬ gA G b) (hL : L ≤ 4096) {i : Nat} (hi : i + 8 ≤ L) {τ : Mu} {α : Nat → Nat} {M : Mem} {q mb ao n9 : Nat} (hj : LJ τ G α M q mb ao) (hk : LK n9 τ) (hn9 : n9 ≤ 600) {cells slots : Nat} (hcs : cells ≤ 500000) (hss : slots ≤ 7000000) {Q : State → Prop} (kk : ∀ U be M2, LJ U G be M2 q mb ao → LK (n9 + 1) U → V p l e room_1 s m args below meth c G Q 8 M2 (cells + 20) (slots + 4000) 2691 [(0, .ref b), (1, .ref q), (2, .ref mb), (3, .ref ao), (4, .int (nI i))] []) : V p l e room_1 s m args below meth c G Q 8 M cells slots 775 [(0, .ref b), (1, .ref q), (2, .ref mb), (3, .ref ao), (4, .int (nI i))] [] := by
  have hj0 := hj
  obtain ⟨hw, ⟨hws, hwt, hwb⟩, ha0, hmt, ⟨hao, hao1⟩, han, hmn, hom⟩ := hj0
  subst ha0
  refine r_aload_n C 1 dL_law_775 rfl rfl ?_
  refine r_aload_n C 0 dL_law_776 rfl rfl ?_
  refine r_iload C 4 dL_law_777 rfl ?_
  refine r_iconst C (v := nI 1) dL_law_779 (by decide) ?_
  refine r_iaddN C dL_law_780 ?_
  refine r_sld C hX hbl hbA hL (i := i + 1) (by omega) dL_law_781 ?_
  refine r_aload_n C 0 dL_law_782 rfl rfl ?_
  refine r_iload C 4 dL_law_783 rfl ?_
  refine r_iconst C (v := nI 2) dL_law_785 (by decide) ?_
  refine r_iaddN C dL_law_786 ?_
  refine r_sld C hX hbl hbA hL (i := i + 2) (by omega) dL_law_787 ?_
  refine r_aload_n C 3 dL_law_788 rfl rfl ?_
  refine r_callH C hgX hl_leave (c_L_leave l hfl G M τ hw α hws hwt hwb (hk.ad hn9) (xs (i + 1)) (xs (i + 2)) ao hao hao1 han (fun h_ => (lk_leave hw hk hn9 h_).1)) rfl (Nat.le_of_ble_eq_true rfl) (rm_hR (Nat.le_of_ble_eq_true rfl) (Nat.le_of_ble_eq_true rfl)) (rm_hf (by omega) (by omega)) dL_law_789 rfl ?_
  intro v1 M1 hlp0
  obtain ⟨cc, hcc, hlp, hv1⟩ := LPo.ex hlp0
  subst hv1
  clear hlp0
  have hc3 : cc ≤ 3 := by rw [hcc]; exact cd2_le _ _
  have hmd := hj.mid hlp
  refine V.eSt (st' := [.int (nI cc)]) rfl ?_
  refine r_istore C (lo' := [(5, .int (nI cc)), (0, .ref b), (1, .ref (α 0)), (2, .ref mb), (3, .ref ao), (4, .int (nI i))]) dL_law_792 (by decide) rfl ?_
  refine r_aload_n C 3 dL_law_794 rfl rfl ?_
  refine r_aload_n C 1 dL_law_795 rfl rfl ?_
  refine r_iload C 5 dL_law_796 rfl ?_
  refine r_iconst C (v := nI 1) dL_law_798 (by decide) ?_
  refine r_iaddN C dL_law_799 ?_
  refine r_sld C hX hbl hbA hL (i := i + 1) (by omega) dL_law_800 ?_
  refine r_aload_n C 1 dL_law_801 rfl rfl ?_
  refine r_iload C 5 dL_law_802 rfl ?_
  refine r_iconst C (v := nI 2) dL_law_804 (by decide) ?_
  refine r_iaddN C dL_law_805 ?_
  refine r_sld C hX hbl hbA hL (i := i + 2) (by omega) dL_law_806 ?_
  refine r_callV C hgX (ci := 14) ml_L_165 im_X12_leave se_X12_leave rfl rfl hmd.1.1 (c_X12_leave l hfl G M1 mb τ hmd.1 hmd.2.1 hw hmd.2.2.1 hmd.2.2.2 (xs (i + 1)) (xs (i + 2))) rfl (Nat.le_of_ble_eq_true rfl) (rm_hR (Nat.le_of_ble_eq_true rfl) (Nat.le_of_ble_eq_true rfl)) (rm_hf (by omega) (by omega)) dL_law_807 rfl ?_
  intro v2 M2 hpp0
  have hpp := PP.ex hcc hpp0
  clear hpp0
  obtain ⟨be, hj2, hlk⟩ := hj.step2 (n := n9 + 1) (fun h_ => lk_leave hw hk hn9 (hcc.symm.trans h_)) hk.up hlp hpp
  obtain ⟨x2, hx2⟩ := hpp.2.2.2.2.2
  subst hx2
  refine V.eSt (st' := [.int x2]) rfl ?_
  refine r_istore C (lo' := [(6, .int x2), (5, .int (nI cc)), (0, .ref b), (1, .ref (α 0)), (2, .ref mb), (3, .ref ao), (4, .int (nI i))]) dL_law_810 (by decide) rfl ?_
  refine r_aload_n C 4 dL_law_812 rfl rfl ?_
  refine r_callV C hgX (ci := 14) ml_L_138 im_X12_thrown se_X12_thrown rfl rfl hj2.2.2.2.1.1.1 (c_X12_thrown l hfl G M2 mb hj2.2.2.2.1.1) rfl (Nat.le_of_ble_eq_true rfl) (rm_hR (Nat.le_of_ble_eq_true rfl) (Nat.le_of_ble_eq_true rfl)) (rm_hf (by omega) (by omega)) dL_law_813 rfl ?_
  intro v3 M3 h3
  obtain ⟨hv3, hM3⟩ := h3
  subst hv3
  subst hM3
  refine V.eSt (st' := [.int (nI cc)]) (congrArg (fun z_ => [Value.int z_]) hpp.1) ?_
  refine r_iload C 1 dL_law_816 rfl ?_
  refine r_icmp_eqN C (t := 823) (by omega) (by omega) dL_law_818 (by decide) (fun c818 => ?_) (fun c818 => ?_)
  · skip
    refine r_iload C 1 dL_law_823 rfl ?_
    refine r_if_neN C (t := 847) (by omega) dL_law_825 (by decide) (fun c825 => ?_) (fun c825 => ?_)
    · skip
      refine r_goto C (t := 2691) dL_law_847 (by decide) ?_
      refine V.sub [2, 3, 4, 5, 6] (lo' := [(0, .ref b), (1, .ref (α 0)), (2, .ref mb), (3, .ref ao), (4, .int (nI i))]) rfl ?_
      refine V.widen (k := cells + 20) (n := slots + 4000) (by omega) (by omega) ?_
      exact kk _ be M2 hj2 hlk
    · skip
      refine r_aload_n C 5 dL_law_828 rfl rfl ?_
      refine r_iconst C (v := nI 0) dL_law_829 (by decide) ?_
      refine r_laloadN C hj2.2.2.2.2.1.1 hj2.2.2.2.2.1.2 (by omega) (by omega) dL_law_830 ?_
      refine r_iload C 0 dL_law_831 rfl ?_
      refine r_if_eq C (t := 840) dL_law_833 (by decide) (fun c833 => ?_) (fun c833 => ?_)
      · skip
        refine r_lconst C (v := lN 0) dL_law_840 (by decide) ?_
        have hA := hj.out hlp hpp c825
        have hB := so_i (hpp.2.2.2.2.1 c825).1
        refine r_lcmp_eq C (t := 847) dL_law_841 dL_law_842 (by decide) (fun c842 => ?_) (fun c842 => ?_)
        · skip
          refine r_goto C (t := 2691) dL_law_847 (by decide) ?_
          refine V.sub [2, 3, 4, 5, 6] (lo' := [(0, .ref b), (1, .ref (α 0)), (2, .ref mb), (3, .ref ao), (4, .int (nI i))]) rfl ?_
          refine V.widen (k := cells + 20) (n := slots + 4000) (by omega) (by omega) ?_
          exact kk _ be M2 hj2 hlk
        · exact absurd (by rw [hA, ← hB, if_pos c833]) c842
      · skip
        refine r_lconst C (v := lN 1) dL_law_836 (by decide) ?_
        refine r_goto C (t := 841) dL_law_837 (by decide) ?_
        have hA := hj.out hlp hpp c825
        have hB := so_i (hpp.2.2.2.2.1 c825).1
        refine r_lcmp_eq C (t := 847) dL_law_841 dL_law_842 (by decide) (fun c842 => ?_) (fun c842 => ?_)
        · skip
          refine r_goto C (t := 2691) dL_law_847 (by decide) ?_
          refine V.sub [2, 3, 4, 5, 6] (lo' := [(0, .ref b), (1, .ref (α 0)), (2, .ref mb), (3, .ref ao), (4, .int (nI i))]) rfl ?_
          refine V.widen (k := cells + 20) (n := slots + 4000) (by omega) (by omega) ?_
          exact kk _ be M2 hj2 hlk
        · exact absurd (by rw [hA, ← hB, if_neg c833]) c842
  · exact absurd rfl c818
set_option maxHeartbeats 1000000 in
set_option maxRecDepth 100000 in
theorem lc_leaveLeft (l : Launch) (hfl : l.flags = flags0) {p : Program} {e : Env} {s : State} {m : MethodId} {args : Array Value} {below : List Frame} {meth : Method} {c : Code} {G : gW} (C : Cx p l s m args meth c G RL cL_law 8) (hgX : gX G s s.heap) {b L : Nat} {xs : Nat → Int32} (hX : va_X b L xs s s.heap) (hbl : b < s.heap.size) (hbA : ¬ gA G b) (hL : L ≤ 4096) {i : Nat} (hi : i + 8 ≤ L) {τ : Mu} {α : Nat → Nat} {M : Mem} {q mb ao n9 : Nat} (hj : LJ τ G α M q mb ao) (hk : LK n9 τ) (hn9 : n9 ≤ 600) {cells slots : Nat} (hcs : cells ≤ 500000) (hss : slots ≤ 7000000) {Q : State → Prop} (kk : ∀ U be M2, LJ U G be M2 q mb ao → LK (n9 + 1) U → V p l e room_1 s m args below meth c G Q 8 M2 (cells + 20) (slots + 4000) 2691 [(0, .ref b), (1, .ref q), (2, .ref mb), (3, .ref ao), (4, .int (nI i))] []) : V p l e room_1 s m args below meth c G Q 8 M cells slots 850 [(0, .ref b), (1, .ref q), (2, .ref mb), (3, .ref ao), (4, .int (nI i))] [] := by
  have hj0 := hj
  obtain ⟨hw, ⟨hws, hwt, hwb⟩, ha0, hmt, ⟨hao, hao1⟩, han, hmn, hom⟩ := hj0
  subst ha0
  refine r_aload_n C 1 dL_law_850 rfl rfl ?_
  refine r_aload_n C 0 dL_law_851 rfl rfl ?_
  refine r_iload C 4 dL_law_852 rfl ?_
  refine r_iconst C (v := nI 1) dL_law_854 (by decide) ?_
  refine r_iaddN C dL_law_855 ?_
  refine r_sld C hX hbl hbA hL (i := i + 1) (by omega) dL_law_856 ?_
  refine r_aload_n C 0 dL_law_857 rfl rfl ?_
  refine r_iload C 4 dL_law_858 rfl ?_
  refine r_iconst C (v := nI 2) dL_law_860 (by decide) ?_
  refine r_iaddN C dL_law_861 ?_
  refine r_sld C hX hbl hbA hL (i := i + 2) (by omega) dL_law_862 ?_
  refine r_aload_n C 3 dL_law_863 rfl rfl ?_
  refine r_callH C hgX hl_leaveLeft (c_L_leaveLeft l hfl G M τ hw α hws hwt hwb (hk.ad hn9) (xs (i + 1)) (xs (i + 2)) ao hao hao1 han (fun _ => hw)) rfl (Nat.le_of_ble_eq_true rfl) (rm_hR (Nat.le_of_ble_eq_true rfl) (Nat.le_of_ble_eq_true rfl)) (rm_hf (by omega) (by omega)) dL_law_864 rfl ?_
  intro v1 M1 hlp0
  obtain ⟨cc, hcc, hlp, hv1⟩ := LPo.ex hlp0
  subst hv1
  clear hlp0
  have hc3 : cc ≤ 3 := by rw [hcc]; exact cd1_le _
  have hmd := hj.mid hlp
  refine V.eSt (st' := [.int (nI cc)]) rfl ?_
  refine r_istore C (lo' := [(5, .int (nI cc)), (0, .ref b), (1, .ref (α 0)), (2, .ref mb), (3, .ref ao), (4, .int (nI i))]) dL_law_867 (by decide) rfl ?_
  refine r_aload_n C 3 dL_law_869 rfl rfl ?_
  refine r_aload_n C 1 dL_law_870 rfl rfl ?_
  refine r_iload C 5 dL_law_871 rfl ?_
  refine r_iconst C (v := nI 1) dL_law_873 (by decide) ?_
  refine r_iaddN C dL_law_874 ?_
  refine r_sld C hX hbl hbA hL (i := i + 1) (by omega) dL_law_875 ?_
  refine r_aload_n C 1 dL_law_876 rfl rfl ?_
  refine r_iload C 5 dL_law_877 rfl ?_
  refine r_iconst C (v := nI 2) dL_law_879 (by decide) ?_
  refine r_iaddN C dL_law_880 ?_
  refine r_sld C hX hbl hbA hL (i := i + 2) (by omega) dL_law_881 ?_
  refine r_callV C hgX (ci := 14) ml_L_168 im_X12_leaveLeft se_X12_leaveLeft rfl rfl hmd.1.1 (c_X12_leaveLeft l hfl G M1 mb τ hmd.1 hmd.2.1 hw hmd.2.2.1 hmd.2.2.2 (xs (i + 1)) (xs (i + 2))) rfl (Nat.le_of_ble_eq_true rfl) (rm_hR (Nat.le_of_ble_eq_true rfl) (Nat.le_of_ble_eq_true rfl)) (rm_hf (by omega) (by omega)) dL_law_882 rfl ?_
  intro v2 M2 hpp0
  have hpp := PP.ex hcc hpp0
  clear hpp0
  obtain ⟨be, hj2, hlk⟩ := hj.step2 (n := n9 + 1) (fun _ => ⟨hw, hk.up⟩) hk.up hlp hpp
  obtain ⟨x2, hx2⟩ := hpp.2.2.2.2.2
  subst hx2
  refine V.eSt (st' := [.int x2]) rfl ?_
  refine r_istore C (lo' := [(6, .int x2), (5, .int (nI cc)), (0, .ref b), (1, .ref (α 0)), (2, .ref mb), (3, .ref ao), (4, .int (nI i))]) dL_law_885 (by decide) rfl ?_
  refine r_aload_n C 4 dL_law_887 rfl rfl ?_
  refine r_callV C hgX (ci := 14) ml_L_138 im_X12_thrown se_X12_thrown rfl rfl hj2.2.2.2.1.1.1 (c_X12_thrown l hfl G M2 mb hj2.2.2.2.1.1) rfl (Nat.le_of_ble_eq_true rfl) (rm_hR (Nat.le_of_ble_eq_true rfl) (Nat.le_of_ble_eq_true rfl)) (rm_hf (by omega) (by omega)) dL_law_888 rfl ?_
  intro v3 M3 h3
  obtain ⟨hv3, hM3⟩ := h3
  subst hv3
  subst hM3
  refine V.eSt (st' := [.int (nI cc)]) (congrArg (fun z_ => [Value.int z_]) hpp.1) ?_
  refine r_iload C 1 dL_law_891 rfl ?_
  refine r_icmp_eqN C (t := 898) (by omega) (by omega) dL_law_893 (by decide) (fun c893 => ?_) (fun c893 => ?_)
  · skip
    refine r_iload C 1 dL_law_898 rfl ?_
    refine r_if_neN C (t := 915) (by omega) dL_law_900 (by decide) (fun c900 => ?_) (fun c900 => ?_)
    · skip
      refine r_goto C (t := 2691) dL_law_915 (by decide) ?_
      refine V.sub [2, 3, 4, 5, 6] (lo' := [(0, .ref b), (1, .ref (α 0)), (2, .ref mb), (3, .ref ao), (4, .int (nI i))]) rfl ?_
      refine V.widen (k := cells + 20) (n := slots + 4000) (by omega) (by omega) ?_
      exact kk _ be M2 hj2 hlk
    · skip
      refine r_aload_n C 5 dL_law_903 rfl rfl ?_
      refine r_iconst C (v := nI 0) dL_law_904 (by decide) ?_
      refine r_laloadN C hj2.2.2.2.2.1.1 hj2.2.2.2.2.1.2 (by omega) (by omega) dL_law_905 ?_
      refine r_iload C 0 dL_law_906 rfl ?_
      refine r_i2l C dL_law_908 ?_
      have hA := hj.out hlp hpp c900
      have hB := so_i (hpp.2.2.2.2.1 c900).1
      refine r_lcmp_eq C (t := 915) dL_law_909 dL_law_910 (by decide) (fun c910 => ?_) (fun c910 => ?_)
      · skip
        refine r_goto C (t := 2691) dL_law_915 (by decide) ?_
        refine V.sub [2, 3, 4, 5, 6] (lo' := [(0, .ref b), (1, .ref (α 0)), (2, .ref mb), (3, .ref ao), (4, .int (nI i))]) rfl ?_
        refine V.widen (k := cells + 20) (n := slots + 4000) (by omega) (by omega) ?_
        exact kk _ be M2 hj2 hlk
      · exact absurd (by rw [hA, hB]) c910
  · exact absurd rfl c893
