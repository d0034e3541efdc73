/-! THE LAW: asks -/
/-- what garnishments took of a person's months, added to t -/
def tkP (τ : Mu) (p : Nat) (t : Int64) : Nat → Int64
  | 0 => t
  | k + 1 => tkP τ p t k + slL τ p k 5
def tkS (τ : Mu) : Nat → Int64
  | 0 => lN 0
  | p + 1 => tkP τ p (tkS τ p) 24
def byS (τ : Mu) : Nat → Int64
  | 0 => lN 0
  | g + 1 => byS τ g + hadL τ (un τ 38 g) 24 g
/-- what asks needs of what was told -/
def AskM (τ : Mu) (p m : Nat) : Prop := slL τ p m 4 = slL τ p m 0 - slL τ p m 1 - slL τ p m 3 - slL τ p m 2 ∧ ¬ slL τ p m 5 < lN 0 ∧ (¬ slL τ p m 5 ≤ lN 0 → ¬ slL τ p m 4 < slL τ p m 5) ∧ ¬ slL τ p m 4 - slL τ p m 5 < slL τ p m 6 ∧ ¬ slL τ p m 1 < lN 0 ∧ ¬ slL τ p m 2 < lN 0 ∧ slL τ p m 7 ≤ slL τ p m 2
def AskOK (τ : Mu) : Prop := (∀ p m w, p < 3 → m < 24 → (w = 0 ∨ w = 1 ∨ w = 3) → inL τ p m 0 w + inL τ p m 1 w + inL τ p m 2 w = slL τ p m w) ∧ (∀ p m, p < 3 → m < 24 → AskM τ p m) ∧ (∀ p m, p = 0 → m < 24 → yearL τ (48 * p + 24 * 0) m (lN 0) = lN 0) ∧ (∀ p m, p < 3 → m < 24 → yearL τ (48 * p + 24 * 1) m (lN 500000) ≤ yearL τ (48 * p + 24 * 1) m (lN 600000)) ∧ byS τ (un τ 44 44) = tkS τ 3
theorem lN_inj {a b : Nat} (ha : a < 2 ^ 63) (hb : b < 2 ^ 63) (h : lN a = lN b) : a = b := (pk_lEQ ha hb).mp h
set_option maxHeartbeats 4000000 in
set_option maxRecDepth 100000 in
theorem c_L_asks (l : Launch) (hfl : l.flags = flags0) (G : gW) (M : Mem) (τ : Mu) (hw : WF τ) (had : ∀ p, p < 6 → AD τ p) (hA : AskOK τ) (q : Nat) (F : Nat → Prop) (hO : OW τ G q F M) (y : Int32) (g : Nat) (hg : g = un τ 44 44) : CT l yL_asks cL_asks 21 (some .boolean) 8 3021 18126 212 G M [.ref q, .int y, .int (nI g)] (fun v M' => v = some (.int (nI 1)) ∧ OW τ G q F M' ∧ KF F M M') := by
  refine CT.of hfl rfl (Nat.le_of_ble_eq_true rfl) ?_
  intro pp ee ss mm ar bw mt cd C hgX hr hini
  have h51 := hw.np.2
  have h46 := hw.op.2
  have h44 := hw.ng.2
  obtain ⟨hA1, hB, hC2, hD, hE⟩ := id hA
  refine V.eLo (lo' := [(0, .ref q), (1, .int y), (2, .int (nI g))]) rfl ?_
  refine r_lconst C (v := lN 0) dL_asks_0 (by decide) ?_
  refine r_lstore_n C (lo' := [(3, .long (lN 0)), (0, .ref q), (1, .int y), (2, .int (nI g))]) dL_asks_1 rfl (by decide) rfl ?_
  refine r_iconst C (v := nI 0) dL_asks_2 (by decide) ?_
  refine r_istore C (lo' := [(5, .int (nI 0)), (3, .long (lN 0)), (0, .ref q), (1, .int y), (2, .int (nI g))]) dL_asks_3 (by decide) rfl ?_
  have lp5 : ∀ (k5 : Nat) (Mx : Mem) (p : Nat) (T : Int64) (hp : p ≤ 3) (hT : T = tkS τ p) (hOx : OW τ G q F Mx) (hgx : KF F M Mx), 3 - p < k5 → V pp l ee ({ frames := 8, cells := 3021, slots := 18126, locals := 212 } : Room) ss mm ar bw mt cd G (MQ bw (Ke G (fun v M' => v = some (.int (nI 1)) ∧ OW τ G q F M' ∧ KF F M M')) ar ss 3021 18126 (gA G)) 21 Mx (1005 * p) (6030 * p) 5 [(0, .ref q), (1, .int y), (2, .int (nI g)), (3, .long T), (5, .int (nI p))] [] := by
    intro k5
    induction k5 with
    | zero => intro Mx p T hp hT hOx hgx hz5; exact absurd hz5 (Nat.not_lt_zero _)
    | succ k5 ih5 =>
      intro Mx p T hp hT hOx hgx hz5
      refine r_iload C 4 dL_asks_5 rfl ?_
      refine r_iconst C (v := nI 3) dL_asks_7 (by decide) ?_
      refine r_icmp_geN C (t := 518) (by omega) (by omega) dL_asks_8 (by decide) (fun c8 => ?_) (fun c8 => ?_)
      · skip
        have hpe : p = 3 := by omega
        refine V.widen (k := 3015) (n := 18090) (by omega) (by omega) ?_
        refine r_lconst C (v := lN 0) dL_asks_518 (by decide) ?_
        refine r_lstore C (lo' := [(5, .long (lN 0)), (0, .ref q), (1, .int y), (2, .int (nI g)), (3, .long T)]) dL_asks_519 (by decide) rfl ?_
        refine r_iconst C (v := nI 0) dL_asks_521 (by decide) ?_
        refine r_istore C (lo' := [(7, .int (nI 0)), (5, .long (lN 0)), (0, .ref q), (1, .int y), (2, .int (nI g)), (3, .long T)]) dL_asks_522 (by decide) rfl ?_
        have lp524 : ∀ (k524 : Nat) (Mu : Mem) (k : Nat) (Y : Int64) (hkg : k ≤ g) (hY : Y = byS τ k) (hOu : OW τ G q F Mu) (hgu : KF F M Mu), g - k < k524 → V pp l ee ({ frames := 8, cells := 3021, slots := 18126, locals := 212 } : Room) ss mm ar bw mt cd G (MQ bw (Ke G (fun v M' => v = some (.int (nI 1)) ∧ OW τ G q F M' ∧ KF F M M')) ar ss 3021 18126 (gA G)) 21 Mu (3015 + k) (18090 + 6 * k) 524 [(0, .ref q), (2, .int (nI g)), (3, .long T), (5, .long Y), (7, .int (nI k))] [] := by
          intro k524
          induction k524 with
          | zero => intro Mu k Y hkg hY hOu hgu hz524; exact absurd hz524 (Nat.not_lt_zero _)
          | succ k524 ih524 =>
            intro Mu k Y hkg hY hOu hgu hz524
            refine r_iload C 4 dL_asks_524 rfl ?_
            refine r_iload_n C 1 dL_asks_526 rfl rfl ?_
            refine r_icmp_geN C (t := 549) (by omega) (by omega) dL_asks_527 (by decide) (fun c527 => ?_) (fun c527 => ?_)
            · skip
              have hkeg : k = g := by omega
              refine r_lload C 3 dL_asks_549 rfl ?_
              refine r_lload_n C 2 dL_asks_551 rfl rfl ?_
              refine r_lcmp_ne C (t := 560) dL_asks_552 dL_asks_553 (by decide) (fun c553 => ?_) (fun c553 => ?_)
              · exact absurd (by rw [hY, hT, hkeg, hg, hpe]; exact hE) c553
              · skip
                refine r_iconst C (v := nI 1) dL_asks_556 (by decide) ?_
                refine r_goto C (t := 561) dL_asks_557 (by decide) ?_
                exact r_zret C hr (by decide) (⟨rfl, hOu, hgu⟩) (by omega) (by omega) dL_asks_561
            · skip
              have hkg2 : k < un τ 44 44 := by omega
              refine r_lload C 3 dL_asks_530 rfl ?_
              refine r_aload_n C 0 dL_asks_532 rfl rfl ?_
              refine r_iload C 4 dL_asks_533 rfl ?_
              refine r_bipush C (v := nI 23) dL_asks_535 (by decide) ?_
              refine rq_takenBy C hgX hfl hw had hOu ml_L_99 (hkg2) (by decide) (Nat.le_of_ble_eq_true rfl) ⟨Nat.le_of_ble_eq_true rfl, Nat.le_of_ble_eq_true rfl⟩ ⟨by dsimp only; omega, by dsimp only; omega⟩ dL_asks_537 ?_
              intro Mq1 hO1 hk1
              have hg1 : KF F M Mq1 := hgu.tr hk1
              refine r_ladd C dL_asks_540 ?_
              refine r_lstore C (lo' := [(5, .long (Y + (hadL τ (un τ 38 k) 24 k))), (0, .ref q), (2, .int (nI g)), (3, .long T), (7, .int (nI k))]) dL_asks_541 (by decide) rfl ?_
              refine r_iinc C (v := nI (k + 1)) (lo' := [(7, .int (nI (k + 1))), (5, .long (Y + (hadL τ (un τ 38 k) 24 k))), (0, .ref q), (2, .int (nI g)), (3, .long T)]) 4 dL_asks_543 rfl (nI_addI k 1) (by decide) rfl ?_
              refine V.widen (k := 3015 + (k + 1)) (n := 18090 + 6 * (k + 1)) (by omega) (by omega) ?_
              refine r_goto C (t := 524) dL_asks_546 (by decide) ?_
              refine V.sub [2, 3, 4, 1, 0] (lo' := [(0, .ref q), (2, .int (nI g)), (3, .long T), (5, .long (Y + (hadL τ (un τ 38 k) 24 k))), (7, .int (nI (k + 1)))]) rfl ?_
              exact ih524 Mq1 (k + 1) (Y + (hadL τ (un τ 38 k) 24 k)) (by omega) (by rw [hY]; rfl) hO1 hg1 (by omega)
        refine V.sub [2, 4, 5, 1, 0] (lo' := [(0, .ref q), (2, .int (nI g)), (3, .long T), (5, .long (lN 0)), (7, .int (nI 0))]) rfl ?_
        exact lp524 _ Mx 0 (lN 0) (by omega) rfl hOx hgx (Nat.lt_succ_self _)
      · skip
        have hp3 : p < 3 := by omega
        refine r_lconst C (v := lN 0) dL_asks_11 (by decide) ?_
        refine r_lstore C (lo' := [(6, .long (lN 0)), (0, .ref q), (1, .int y), (2, .int (nI g)), (3, .long T), (5, .int (nI p))]) dL_asks_12 (by decide) rfl ?_
        refine r_iload_n C 2 dL_asks_14 rfl rfl ?_
        refine r_iconst C (v := nI 2) dL_asks_15 (by decide) ?_
        refine r_iload C 5 dL_asks_16 rfl ?_
        refine r_imulN C dL_asks_18 ?_
        refine r_ishr C dL_asks_19 ?_
        refine r_bipush C (v := nI 24) dL_asks_20 (by decide) ?_
        refine r_callS C hgX ml_L_79 st_L_low (c_L_low l hfl G Mx (y >>> ((nI (2 * p)) &&& 31)) 24 (by decide) (by decide)) rfl (Nat.le_of_ble_eq_true rfl) ⟨Nat.le_of_ble_eq_true rfl, Nat.le_of_ble_eq_true rfl⟩ ⟨by dsimp only; omega, by dsimp only; omega⟩ dL_asks_22 rfl ?_
        rintro _ _ ⟨rfl, rfl⟩
        obtain ⟨mh, hmh, emh⟩ : ∃ z_, z_ < 24 ∧ lwN (y >>> ((nI (2 * p)) &&& 31)) 24 = z_ := ⟨_, lwN_lt (by decide), rfl⟩
        rw [emh]
        refine V.eSt (st' := [.int (nI mh)]) rfl ?_
        refine r_istore C (lo' := [(8, .int (nI mh)), (6, .long (lN 0)), (0, .ref q), (1, .int y), (2, .int (nI g)), (3, .long T), (5, .int (nI p))]) dL_asks_25 (by decide) rfl ?_
        refine r_aload_n C 2 dL_asks_27 rfl rfl ?_
        refine r_iload C 6 dL_asks_28 rfl ?_
        refine r_iload C 0 dL_asks_30 rfl ?_
        refine r_iconst C (v := nI 0) dL_asks_32 (by decide) ?_
        refine r_iconst C (v := nI 0) dL_asks_33 (by decide) ?_
        refine rq_slipIn C hgX hfl hw had hOx ml_L_84 (by omega) (by omega) (by omega) (by omega) (Nat.le_of_ble_eq_true rfl) ⟨Nat.le_of_ble_eq_true rfl, Nat.le_of_ble_eq_true rfl⟩ ⟨by dsimp only; omega, by dsimp only; omega⟩ dL_asks_34 ?_
        intro Mq2 hO2 hk2
        have hg2 : KF F M Mq2 := hgx.tr hk2
        refine r_aload_n C 2 dL_asks_37 rfl rfl ?_
        refine r_iload C 6 dL_asks_38 rfl ?_
        refine r_iload C 0 dL_asks_40 rfl ?_
        refine r_iconst C (v := nI 1) dL_asks_42 (by decide) ?_
        refine r_iconst C (v := nI 0) dL_asks_43 (by decide) ?_
        refine rq_slipIn C hgX hfl hw had hO2 ml_L_84 (by omega) (by omega) (by omega) (by omega) (Nat.le_of_ble_eq_true rfl) ⟨Nat.le_of_ble_eq_true rfl, Nat.le_of_ble_eq_true rfl⟩ ⟨by dsimp only; omega, by dsimp only; omega⟩ dL_asks_44 ?_
        intro Mq3 hO3 hk3
        have hg3 : KF F M Mq3 := hg2.tr hk3
        refine r_ladd C dL_asks_47 ?_
        refine r_aload_n C 2 dL_asks_48 rfl rfl ?_
        refine r_iload C 6 dL_asks_49 rfl ?_
        refine r_iload C 0 dL_asks_51 rfl ?_
        refine r_iconst C (v := nI 2) dL_asks_53 (by decide) ?_
        refine r_iconst C (v := nI 0) dL_asks_54 (by decide) ?_
        refine rq_slipIn C hgX hfl hw had hO3 ml_L_84 (by omega) (by omega) (by omega) (by omega) (Nat.le_of_ble_eq_true rfl) ⟨Nat.le_of_ble_eq_true rfl, Nat.le_of_ble_eq_true rfl⟩ ⟨by dsimp only; omega, by dsimp only; omega⟩ dL_asks_55 ?_
        intro Mq4 hO4 hk4
        have hg4 : KF F M Mq4 := hg3.tr hk4
        refine r_ladd C dL_asks_58 ?_
        refine V.el (y := slL τ p mh 0) (hA.1 p mh 0 hp3 hmh (by omega)) ?_
        refine r_lstore C (lo' := [(9, .long (slL τ p mh 0)), (8, .int (nI mh)), (6, .long (lN 0)), (0, .ref q), (1, .int y), (2, .int (nI g)), (3, .long T), (5, .int (nI p))]) dL_asks_59 (by decide) rfl ?_
        refine r_aload_n C 3 dL_asks_61 rfl rfl ?_
        refine r_iload C 7 dL_asks_62 rfl ?_
        refine r_iload C 1 dL_asks_64 rfl ?_
        refine r_iconst C (v := nI 0) dL_asks_66 (by decide) ?_
        refine r_iconst C (v := nI 1) dL_asks_67 (by decide) ?_
        refine rq_slipIn C hgX hfl hw had hO4 ml_L_84 (by omega) (by omega) (by omega) (by omega) (Nat.le_of_ble_eq_true rfl) ⟨Nat.le_of_ble_eq_true rfl, Nat.le_of_ble_eq_true rfl⟩ ⟨by dsimp only; omega, by dsimp only; omega⟩ dL_asks_68 ?_
        intro Mq5 hO5 hk5
        have hg5 : KF F M Mq5 := hg4.tr hk5
        refine r_aload_n C 3 dL_asks_71 rfl rfl ?_
        refine r_iload C 7 dL_asks_72 rfl ?_
        refine r_iload C 1 dL_asks_74 rfl ?_
        refine r_iconst C (v := nI 1) dL_asks_76 (by decide) ?_
        refine r_iconst C (v := nI 1) dL_asks_77 (by decide) ?_
        refine rq_slipIn C hgX hfl hw had hO5 ml_L_84 (by omega) (by omega) (by omega) (by omega) (Nat.le_of_ble_eq_true rfl) ⟨Nat.le_of_ble_eq_true rfl, Nat.le_of_ble_eq_true rfl⟩ ⟨by dsimp only; omega, by dsimp only; omega⟩ dL_asks_78 ?_
        intro Mq6 hO6 hk6
        have hg6 : KF F M Mq6 := hg5.tr hk6
        refine r_ladd C dL_asks_81 ?_
        refine r_aload_n C 3 dL_asks_82 rfl rfl ?_
        refine r_iload C 7 dL_asks_83 rfl ?_
        refine r_iload C 1 dL_asks_85 rfl ?_
        refine r_iconst C (v := nI 2) dL_asks_87 (by decide) ?_
        refine r_iconst C (v := nI 1) dL_asks_88 (by decide) ?_
        refine rq_slipIn C hgX hfl hw had hO6 ml_L_84 (by omega) (by omega) (by omega) (by omega) (Nat.le_of_ble_eq_true rfl) ⟨Nat.le_of_ble_eq_true rfl, Nat.le_of_ble_eq_true rfl⟩ ⟨by dsimp only; omega, by dsimp only; omega⟩ dL_asks_89 ?_
        intro Mq7 hO7 hk7
        have hg7 : KF F M Mq7 := hg6.tr hk7
        refine r_ladd C dL_asks_92 ?_
        refine V.el (y := slL τ p mh 1) (hA.1 p mh 1 hp3 hmh (by omega)) ?_
        refine r_lstore C (lo' := [(11, .long (slL τ p mh 1)), (9, .long (slL τ p mh 0)), (8, .int (nI mh)), (6, .long (lN 0)), (0, .ref q), (1, .int y), (2, .int (nI g)), (3, .long T), (5, .int (nI p))]) dL_asks_93 (by decide) rfl ?_
        refine r_aload_n C 4 dL_asks_95 rfl rfl ?_
        refine r_iload C 8 dL_asks_96 rfl ?_
        refine r_iload C 2 dL_asks_98 rfl ?_
        refine r_iconst C (v := nI 0) dL_asks_100 (by decide) ?_
        refine r_iconst C (v := nI 3) dL_asks_101 (by decide) ?_
        refine rq_slipIn C hgX hfl hw had hO7 ml_L_84 (by omega) (by omega) (by omega) (by omega) (Nat.le_of_ble_eq_true rfl) ⟨Nat.le_of_ble_eq_true rfl, Nat.le_of_ble_eq_true rfl⟩ ⟨by dsimp only; omega, by dsimp only; omega⟩ dL_asks_102 ?_
        intro Mq8 hO8 hk8
        have hg8 : KF F M Mq8 := hg7.tr hk8
        refine r_aload_n C 4 dL_asks_105 rfl rfl ?_
        refine r_iload C 8 dL_asks_106 rfl ?_
        refine r_iload C 2 dL_asks_108 rfl ?_
        refine r_iconst C (v := nI 1) dL_asks_110 (by decide) ?_
        refine r_iconst C (v := nI 3) dL_asks_111 (by decide) ?_
        refine rq_slipIn C hgX hfl hw had hO8 ml_L_84 (by omega) (by omega) (by omega) (by omega) (Nat.le_of_ble_eq_true rfl) ⟨Nat.le_of_ble_eq_true rfl, Nat.le_of_ble_eq_true rfl⟩ ⟨by dsimp only; omega, by dsimp only; omega⟩ dL_asks_112 ?_
        intro Mq9 hO9 hk9
        have hg9 : KF F M Mq9 := hg8.tr hk9
        refine r_ladd C dL_asks_115 ?_
        refine r_aload_n C 4 dL_asks_116 rfl rfl ?_
        refine r_iload C 8 dL_asks_117 rfl ?_
        refine r_iload C 2 dL_asks_119 rfl ?_
        refine r_iconst C (v := nI 2) dL_asks_121 (by decide) ?_
        refine r_iconst C (v := nI 3) dL_asks_122 (by decide) ?_
        refine rq_slipIn C hgX hfl hw had hO9 ml_L_84 (by omega) (by omega) (by omega) (by omega) (Nat.le_of_ble_eq_true rfl) ⟨Nat.le_of_ble_eq_true rfl, Nat.le_of_ble_eq_true rfl⟩ ⟨by dsimp only; omega, by dsimp only; omega⟩ dL_asks_123 ?_
        intro Mq10 hO10 hk10
        have hg10 : KF F M Mq10 := hg9.tr hk10
        refine r_ladd C dL_asks_126 ?_
        refine V.el (y := slL τ p mh 3) (hA.1 p mh 3 hp3 hmh (by omega)) ?_
        refine r_lstore C (lo' := [(13, .long (slL τ p mh 3)), (11, .long (slL τ p mh 1)), (9, .long (slL τ p mh 0)), (8, .int (nI mh)), (6, .long (lN 0)), (0, .ref q), (1, .int y), (2, .int (nI g)), (3, .long T), (5, .int (nI p))]) dL_asks_127 (by decide) rfl ?_
        refine r_aload_n C 5 dL_asks_129 rfl rfl ?_
        refine r_iload C 9 dL_asks_130 rfl ?_
        refine r_iload C 3 dL_asks_132 rfl ?_
        refine r_iconst C (v := nI 4) dL_asks_134 (by decide) ?_
        refine rq_slip C hgX hfl hw had hO10 ml_L_61 (by omega) (by omega) (by omega) (Nat.le_of_ble_eq_true rfl) ⟨Nat.le_of_ble_eq_true rfl, Nat.le_of_ble_eq_true rfl⟩ ⟨by dsimp only; omega, by dsimp only; omega⟩ dL_asks_135 ?_
        intro Mq11 hO11 hk11
        have hg11 : KF F M Mq11 := hg10.tr hk11
        refine r_lstore C (lo' := [(15, .long (slL τ p mh 4)), (13, .long (slL τ p mh 3)), (11, .long (slL τ p mh 1)), (9, .long (slL τ p mh 0)), (8, .int (nI mh)), (6, .long (lN 0)), (0, .ref q), (1, .int y), (2, .int (nI g)), (3, .long T), (5, .int (nI p))]) dL_asks_138 (by decide) rfl ?_
        refine r_lload C 3 dL_asks_140 rfl ?_
        refine r_aload_n C 6 dL_asks_142 rfl rfl ?_
        refine r_iload C 10 dL_asks_143 rfl ?_
        refine r_iload C 4 dL_asks_145 rfl ?_
        refine r_iconst C (v := nI 0) dL_asks_147 (by decide) ?_
        refine rq_slip C hgX hfl hw had hO11 ml_L_61 (by omega) (by omega) (by omega) (Nat.le_of_ble_eq_true rfl) ⟨Nat.le_of_ble_eq_true rfl, Nat.le_of_ble_eq_true rfl⟩ ⟨by dsimp only; omega, by dsimp only; omega⟩ dL_asks_148 ?_
        intro Mq12 hO12 hk12
        have hg12 : KF F M Mq12 := hg11.tr hk12
        refine r_lcmp_ne C (t := 209) dL_asks_151 dL_asks_152 (by decide) (fun c152 => ?_) (fun c152 => ?_)
        · exact absurd rfl c152
        · skip
          refine r_lload C 2 dL_asks_155 rfl ?_
          refine r_aload_n C 6 dL_asks_157 rfl rfl ?_
          refine r_iload C 10 dL_asks_158 rfl ?_
          refine r_iload C 4 dL_asks_160 rfl ?_
          refine r_iconst C (v := nI 1) dL_asks_162 (by decide) ?_
          refine rq_slip C hgX hfl hw had hO12 ml_L_61 (by omega) (by omega) (by omega) (Nat.le_of_ble_eq_true rfl) ⟨Nat.le_of_ble_eq_true rfl, Nat.le_of_ble_eq_true rfl⟩ ⟨by dsimp only; omega, by dsimp only; omega⟩ dL_asks_163 ?_
          intro Mq13 hO13 hk13
          have hg13 : KF F M Mq13 := hg12.tr hk13
          refine r_lcmp_ne C (t := 209) dL_asks_166 dL_asks_167 (by decide) (fun c167 => ?_) (fun c167 => ?_)
          · exact absurd rfl c167
          · skip
            refine r_lload C 1 dL_asks_170 rfl ?_
            refine r_aload_n C 6 dL_asks_172 rfl rfl ?_
            refine r_iload C 10 dL_asks_173 rfl ?_
            refine r_iload C 4 dL_asks_175 rfl ?_
            refine r_iconst C (v := nI 3) dL_asks_177 (by decide) ?_
            refine rq_slip C hgX hfl hw had hO13 ml_L_61 (by omega) (by omega) (by omega) (Nat.le_of_ble_eq_true rfl) ⟨Nat.le_of_ble_eq_true rfl, Nat.le_of_ble_eq_true rfl⟩ ⟨by dsimp only; omega, by dsimp only; omega⟩ dL_asks_178 ?_
            intro Mq14 hO14 hk14
            have hg14 : KF F M Mq14 := hg13.tr hk14
            refine r_lcmp_ne C (t := 209) dL_asks_181 dL_asks_182 (by decide) (fun c182 => ?_) (fun c182 => ?_)
            · exact absurd rfl c182
            · skip
              refine r_lload C 0 dL_asks_185 rfl ?_
              refine r_lload C 3 dL_asks_187 rfl ?_
              refine r_lload C 2 dL_asks_189 rfl ?_
              refine r_lsub C dL_asks_191 ?_
              refine r_lload C 1 dL_asks_192 rfl ?_
              refine r_lsub C dL_asks_194 ?_
              refine r_aload_n C 6 dL_asks_195 rfl rfl ?_
              refine r_iload C 10 dL_asks_196 rfl ?_
              refine r_iload C 4 dL_asks_198 rfl ?_
              refine r_iconst C (v := nI 2) dL_asks_200 (by decide) ?_
              refine rq_slip C hgX hfl hw had hO14 ml_L_61 (by omega) (by omega) (by omega) (Nat.le_of_ble_eq_true rfl) ⟨Nat.le_of_ble_eq_true rfl, Nat.le_of_ble_eq_true rfl⟩ ⟨by dsimp only; omega, by dsimp only; omega⟩ dL_asks_201 ?_
              intro Mq15 hO15 hk15
              have hg15 : KF F M Mq15 := hg14.tr hk15
              refine r_lsub C dL_asks_204 ?_
              refine r_lcmp_eq C (t := 211) dL_asks_205 dL_asks_206 (by decide) (fun c206 => ?_) (fun c206 => ?_)
              · skip
                refine r_aload_n C 6 dL_asks_211 rfl rfl ?_
                refine r_iload C 10 dL_asks_212 rfl ?_
                refine r_iload C 4 dL_asks_214 rfl ?_
                refine r_iconst C (v := nI 5) dL_asks_216 (by decide) ?_
                refine rq_slip C hgX hfl hw had hO15 ml_L_61 (by omega) (by omega) (by omega) (Nat.le_of_ble_eq_true rfl) ⟨Nat.le_of_ble_eq_true rfl, Nat.le_of_ble_eq_true rfl⟩ ⟨by dsimp only; omega, by dsimp only; omega⟩ dL_asks_217 ?_
                intro Mq16 hO16 hk16
                have hg16 : KF F M Mq16 := hg15.tr hk16
                refine r_lstore C (lo' := [(17, .long (slL τ p mh 5)), (15, .long (slL τ p mh 4)), (13, .long (slL τ p mh 3)), (11, .long (slL τ p mh 1)), (9, .long (slL τ p mh 0)), (8, .int (nI mh)), (6, .long (lN 0)), (0, .ref q), (1, .int y), (2, .int (nI g)), (3, .long T), (5, .int (nI p))]) dL_asks_220 (by decide) rfl ?_
                refine r_lload C 0 dL_asks_222 rfl ?_
                refine r_lconst C (v := lN 0) dL_asks_224 (by decide) ?_
                refine r_lcmp_lt C (t := 307) dL_asks_225 dL_asks_226 (by decide) (fun c226 => ?_) (fun c226 => ?_)
                · exact absurd c226 (hB p mh hp3 hmh).2.1
                · skip
                  have jn244 : V pp l ee ({ frames := 8, cells := 3021, slots := 18126, locals := 212 } : Room) ss mm ar bw mt cd G (MQ bw (Ke G (fun v M' => v = some (.int (nI 1)) ∧ OW τ G q F M' ∧ KF F M M')) ar ss 3021 18126 (gA G)) 21 Mq16 (1005 * p + 2 + 2 + 2 + 2 + 2 + 2 + 2 + 2 + 2 + 2 + 2 + 2 + 2 + 2 + 2) (6030 * p + 12 + 12 + 12 + 12 + 12 + 12 + 12 + 12 + 12 + 12 + 12 + 12 + 12 + 12 + 12) 244 [(17, .long (slL τ p mh 5)), (15, .long (slL τ p mh 4)), (13, .long (slL τ p mh 3)), (11, .long (slL τ p mh 1)), (9, .long (slL τ p mh 0)), (8, .int (nI mh)), (6, .long (lN 0)), (0, .ref q), (1, .int y), (2, .int (nI g)), (3, .long T), (5, .int (nI p))] [] := by
                    skip
                    refine r_aload_n C 7 dL_asks_244 rfl rfl ?_
                    refine r_iload C 11 dL_asks_245 rfl ?_
                    refine r_iload C 5 dL_asks_247 rfl ?_
                    refine r_bipush C (v := nI 6) dL_asks_249 (by decide) ?_
                    refine rq_slip C hgX hfl hw had hO16 ml_L_61 (by omega) (by omega) (by omega) (Nat.le_of_ble_eq_true rfl) ⟨Nat.le_of_ble_eq_true rfl, Nat.le_of_ble_eq_true rfl⟩ ⟨by dsimp only; omega, by dsimp only; omega⟩ dL_asks_251 ?_
                    intro Mq17 hO17 hk17
                    have hg17 : KF F M Mq17 := hg16.tr hk17
                    refine r_lload C 1 dL_asks_254 rfl ?_
                    refine r_lload C 0 dL_asks_256 rfl ?_
                    refine r_lsub C dL_asks_258 ?_
                    refine r_lcmp_gt C (t := 307) dL_asks_259 dL_asks_260 (by decide) (fun c260 => ?_) (fun c260 => ?_)
                    · exact absurd c260 (hB p mh hp3 hmh).2.2.2.1
                    · skip
                      refine r_lload C 3 dL_asks_263 rfl ?_
                      refine r_lconst C (v := lN 0) dL_asks_265 (by decide) ?_
                      refine r_lcmp_lt C (t := 307) dL_asks_266 dL_asks_267 (by decide) (fun c267 => ?_) (fun c267 => ?_)
                      · exact absurd c267 (hB p mh hp3 hmh).2.2.2.2.1
                      · skip
                        refine r_aload_n C 7 dL_asks_270 rfl rfl ?_
                        refine r_iload C 11 dL_asks_271 rfl ?_
                        refine r_iload C 5 dL_asks_273 rfl ?_
                        refine r_iconst C (v := nI 2) dL_asks_275 (by decide) ?_
                        refine rq_slip C hgX hfl hw had hO17 ml_L_61 (by omega) (by omega) (by omega) (Nat.le_of_ble_eq_true rfl) ⟨Nat.le_of_ble_eq_true rfl, Nat.le_of_ble_eq_true rfl⟩ ⟨by dsimp only; omega, by dsimp only; omega⟩ dL_asks_276 ?_
                        intro Mq18 hO18 hk18
                        have hg18 : KF F M Mq18 := hg17.tr hk18
                        refine r_lconst C (v := lN 0) dL_asks_279 (by decide) ?_
                        refine r_lcmp_lt C (t := 307) dL_asks_280 dL_asks_281 (by decide) (fun c281 => ?_) (fun c281 => ?_)
                        · exact absurd c281 (hB p mh hp3 hmh).2.2.2.2.2.1
                        · skip
                          refine r_aload_n C 7 dL_asks_284 rfl rfl ?_
                          refine r_iload C 11 dL_asks_285 rfl ?_
                          refine r_iload C 5 dL_asks_287 rfl ?_
                          refine r_bipush C (v := nI 7) dL_asks_289 (by decide) ?_
                          refine rq_slip C hgX hfl hw had hO18 ml_L_61 (by omega) (by omega) (by omega) (Nat.le_of_ble_eq_true rfl) ⟨Nat.le_of_ble_eq_true rfl, Nat.le_of_ble_eq_true rfl⟩ ⟨by dsimp only; omega, by dsimp only; omega⟩ dL_asks_291 ?_
                          intro Mq19 hO19 hk19
                          have hg19 : KF F M Mq19 := hg18.tr hk19
                          refine r_aload_n C 7 dL_asks_294 rfl rfl ?_
                          refine r_iload C 11 dL_asks_295 rfl ?_
                          refine r_iload C 5 dL_asks_297 rfl ?_
                          refine r_iconst C (v := nI 2) dL_asks_299 (by decide) ?_
                          refine rq_slip C hgX hfl hw had hO19 ml_L_61 (by omega) (by omega) (by omega) (Nat.le_of_ble_eq_true rfl) ⟨Nat.le_of_ble_eq_true rfl, Nat.le_of_ble_eq_true rfl⟩ ⟨by dsimp only; omega, by dsimp only; omega⟩ dL_asks_300 ?_
                          intro Mq20 hO20 hk20
                          have hg20 : KF F M Mq20 := hg19.tr hk20
                          refine r_lcmp_le C (t := 309) dL_asks_303 dL_asks_304 (by decide) (fun c304 => ?_) (fun c304 => ?_)
                          · skip
                            have jn327 : ∀ (Mj : Mem) (la : Nat) (hla : la = if un τ 46 46 = 24 then 23 else un τ 46 46) (hOj : OW τ G q F Mj) (hgj : KF F M Mj), V pp l ee ({ frames := 8, cells := 3021, slots := 18126, locals := 212 } : Room) ss mm ar bw mt cd G (MQ bw (Ke G (fun v M' => v = some (.int (nI 1)) ∧ OW τ G q F M' ∧ KF F M M')) ar ss 3021 18126 (gA G)) 21 Mj (1005 * p + 38) (6030 * p + 228) 327 [(17, .long (slL τ p mh 5)), (15, .long (slL τ p mh 4)), (13, .long (slL τ p mh 3)), (11, .long (slL τ p mh 1)), (9, .long (slL τ p mh 0)), (8, .int (nI mh)), (6, .long (lN 0)), (0, .ref q), (1, .int y), (2, .int (nI g)), (3, .long T), (5, .int (nI p))] [.int (nI la)] := by
                              intro Mj la hla hOj hgj
                              have hla23 : la ≤ 23 := by rw [hla]; split <;> omega
                              refine r_istore C (lo' := [(19, .int (nI la)), (17, .long (slL τ p mh 5)), (15, .long (slL τ p mh 4)), (13, .long (slL τ p mh 3)), (11, .long (slL τ p mh 1)), (9, .long (slL τ p mh 0)), (8, .int (nI mh)), (6, .long (lN 0)), (0, .ref q), (1, .int y), (2, .int (nI g)), (3, .long T), (5, .int (nI p))]) dL_asks_327 (by decide) rfl ?_
                              refine r_iconst C (v := nI 0) dL_asks_329 (by decide) ?_
                              refine r_istore C (lo' := [(20, .int (nI 0)), (19, .int (nI la)), (17, .long (slL τ p mh 5)), (15, .long (slL τ p mh 4)), (13, .long (slL τ p mh 3)), (11, .long (slL τ p mh 1)), (9, .long (slL τ p mh 0)), (8, .int (nI mh)), (6, .long (lN 0)), (0, .ref q), (1, .int y), (2, .int (nI g)), (3, .long T), (5, .int (nI p))]) dL_asks_330 (by decide) rfl ?_
                              have lp332 : ∀ (k332 : Nat) (My : Mem) (k : Nat) (S : Int64) (hkl : k ≤ la + 1) (hS : S = sumL (pyL τ p) k) (hOy : OW τ G q F My) (hgy : KF F M My), la + 1 - k < k332 → V pp l ee ({ frames := 8, cells := 3021, slots := 18126, locals := 212 } : Room) ss mm ar bw mt cd G (MQ bw (Ke G (fun v M' => v = some (.int (nI 1)) ∧ OW τ G q F M' ∧ KF F M M')) ar ss 3021 18126 (gA G)) 21 My (1005 * p + 38 + 2 * k) (6030 * p + 228 + 12 * k) 332 [(0, .ref q), (1, .int y), (2, .int (nI g)), (3, .long T), (5, .int (nI p)), (6, .long S), (8, .int (nI mh)), (19, .int (nI la)), (20, .int (nI k))] [] := by
                                intro k332
                                induction k332 with
                                | zero => intro My k S hkl hS hOy hgy hz332; exact absurd hz332 (Nat.not_lt_zero _)
                                | succ k332 ih332 =>
                                  intro My k S hkl hS hOy hgy hz332
                                  refine r_iload C 8 dL_asks_332 rfl ?_
                                  refine r_iload C 7 dL_asks_334 rfl ?_
                                  refine r_icmp_gtN C (t := 360) (by omega) (by omega) dL_asks_336 (by decide) (fun c336 => ?_) (fun c336 => ?_)
                                  · skip
                                    have hke : k = la + 1 := by omega
                                    refine V.widen (k := 1005 * p + 86) (n := 6030 * p + 516) (by omega) (by omega) ?_
                                    refine r_iconst C (v := nI 0) dL_asks_360 (by decide) ?_
                                    refine r_istore C (lo' := [(20, .int (nI 0)), (0, .ref q), (1, .int y), (2, .int (nI g)), (3, .long T), (5, .int (nI p)), (6, .long S), (8, .int (nI mh)), (19, .int (nI la))]) dL_asks_361 (by decide) rfl ?_
                                    have lp363 : ∀ (k363 : Nat) (Mw : Mem) (k : Nat) (S : Int64) (hkl2 : k ≤ un τ 51 51) (hS2 : S = pdL τ p (sumL (pyL τ p) (la + 1)) k) (hOw : OW τ G q F Mw) (hgw : KF F M Mw), un τ 51 51 - k < k363 → V pp l ee ({ frames := 8, cells := 3021, slots := 18126, locals := 212 } : Room) ss mm ar bw mt cd G (MQ bw (Ke G (fun v M' => v = some (.int (nI 1)) ∧ OW τ G q F M' ∧ KF F M M')) ar ss 3021 18126 (gA G)) 21 Mw (1005 * p + 86 + 6 * k) (6030 * p + 516 + 36 * k) 363 [(0, .ref q), (1, .int y), (2, .int (nI g)), (3, .long T), (5, .int (nI p)), (6, .long S), (8, .int (nI mh)), (19, .int (nI la)), (20, .int (nI k))] [] := by
                                      intro k363
                                      induction k363 with
                                      | zero => intro Mw k S hkl2 hS2 hOw hgw hz363; exact absurd hz363 (Nat.not_lt_zero _)
                                      | succ k363 ih363 =>
                                        intro Mw k S hkl2 hS2 hOw hgw hz363
                                        refine r_iload C 8 dL_asks_363 rfl ?_
                                        refine r_aload_n C 0 dL_asks_365 rfl rfl ?_
                                        refine rq_payments C hgX hfl hw had hOw ml_L_76  (Nat.le_of_ble_eq_true rfl) ⟨Nat.le_of_ble_eq_true rfl, Nat.le_of_ble_eq_true rfl⟩ ⟨by dsimp only; omega, by dsimp only; omega⟩ dL_asks_366 ?_
                                        intro Mq21 hO21 hk21
                                        have hg21 : KF F M Mq21 := hgw.tr hk21
                                        refine r_icmp_geN C (t := 420) (by omega) (by omega) dL_asks_369 (by decide) (fun c369 => ?_) (fun c369 => ?_)
                                        · skip
                                          have hke2 : k = un τ 51 51 := by omega
                                          refine V.widen (k := 1005 * p + 950) (n := 6030 * p + 5700) (by omega) (by omega) ?_
                                          refine r_lload C 5 dL_asks_420 rfl ?_
                                          refine r_aload_n C 0 dL_asks_422 rfl rfl ?_
                                          refine r_iload C 4 dL_asks_423 rfl ?_
                                          refine rq_owed C hgX hfl hw had hO21 ml_L_58 (by omega) (Nat.le_of_ble_eq_true rfl) ⟨Nat.le_of_ble_eq_true rfl, Nat.le_of_ble_eq_true rfl⟩ ⟨by dsimp only; omega, by dsimp only; omega⟩ dL_asks_425 ?_
                                          intro Mq22 hO22 hk22
                                          have hg22 : KF F M Mq22 := hg21.tr hk22
                                          refine r_lcmp_eq C (t := 434) dL_asks_428 dL_asks_429 (by decide) (fun c429 => ?_) (fun c429 => ?_)
                                          · skip
                                            refine r_iconst C (v := nI 0) dL_asks_434 (by decide) ?_
                                            refine r_istore C (lo' := [(20, .int (nI 0)), (0, .ref q), (1, .int y), (2, .int (nI g)), (3, .long T), (5, .int (nI p)), (6, .long S), (8, .int (nI mh)), (19, .int (nI la))]) dL_asks_435 (by decide) rfl ?_
                                            have lp437 : ∀ (k437 : Nat) (Mv : Mem) (k : Nat) (T2 : Int64) (hkl3 : k ≤ 24) (hT2 : T2 = tkP τ p (tkS τ p) k) (hOv : OW τ G q F Mv) (hgv : KF F M Mv), 24 - k < k437 → V pp l ee ({ frames := 8, cells := 3021, slots := 18126, locals := 212 } : Room) ss mm ar bw mt cd G (MQ bw (Ke G (fun v M' => v = some (.int (nI 1)) ∧ OW τ G q F M' ∧ KF F M M')) ar ss 3021 18126 (gA G)) 21 Mv (1005 * p + 951 + 2 * k) (6030 * p + 5706 + 12 * k) 437 [(0, .ref q), (1, .int y), (2, .int (nI g)), (3, .long T2), (5, .int (nI p)), (8, .int (nI mh)), (20, .int (nI k))] [] := by
                                              intro k437
                                              induction k437 with
                                              | zero => intro Mv k T2 hkl3 hT2 hOv hgv hz437; exact absurd hz437 (Nat.not_lt_zero _)
                                              | succ k437 ih437 =>
                                                intro Mv k T2 hkl3 hT2 hOv hgv hz437
                                                refine r_iload C 6 dL_asks_437 rfl ?_
                                                refine r_bipush C (v := nI 24) dL_asks_439 (by decide) ?_
                                                refine r_icmp_geN C (t := 462) (by omega) (by omega) dL_asks_441 (by decide) (fun c441 => ?_) (fun c441 => ?_)
                                                · skip
                                                  have hke3 : k = 24 := by omega
                                                  refine V.widen (k := 1005 * p + 999) (n := 6030 * p + 5994) (by omega) (by omega) ?_
                                                  have jn482 : ∀ (Mj2 : Mem) (hOj2 : OW τ G q F Mj2) (hgj2 : KF F M Mj2), V pp l ee ({ frames := 8, cells := 3021, slots := 18126, locals := 212 } : Room) ss mm ar bw mt cd G (MQ bw (Ke G (fun v M' => v = some (.int (nI 1)) ∧ OW τ G q F M' ∧ KF F M M')) ar ss 3021 18126 (gA G)) 21 Mj2 (1005 * p + 1001) (6030 * p + 6006) 482 [(0, .ref q), (1, .int y), (2, .int (nI g)), (3, .long T2), (5, .int (nI p)), (8, .int (nI mh)), (20, .int (nI k))] [] := by
                                                    intro Mj2 hOj2 hgj2
                                                    refine r_aload_n C 0 dL_asks_482 rfl rfl ?_
                                                    refine r_iload C 4 dL_asks_483 rfl ?_
                                                    refine r_iconst C (v := nI 1) dL_asks_485 (by decide) ?_
                                                    refine r_iload C 5 dL_asks_486 rfl ?_
                                                    refine r_ldc2 C (v := 500000) kl_L_95 dL_asks_488 ?_
                                                    refine V.el (y := lN 500000) (by decide) ?_
                                                    refine rq_yearTax C hgX hfl hw had hOj2 ml_L_91 (by omega) (by decide) (hmh) (by decide) (Nat.le_of_ble_eq_true rfl) ⟨Nat.le_of_ble_eq_true rfl, Nat.le_of_ble_eq_true rfl⟩ ⟨by dsimp only; omega, by dsimp only; omega⟩ dL_asks_491 ?_
                                                    intro Mq23 hO23 hk23
                                                    have hg23 : KF F M Mq23 := hgj2.tr hk23
                                                    refine r_aload_n C 0 dL_asks_494 rfl rfl ?_
                                                    refine r_iload C 4 dL_asks_495 rfl ?_
                                                    refine r_iconst C (v := nI 1) dL_asks_497 (by decide) ?_
                                                    refine r_iload C 5 dL_asks_498 rfl ?_
                                                    refine r_ldc2 C (v := 600000) kl_L_97 dL_asks_500 ?_
                                                    refine V.el (y := lN 600000) (by decide) ?_
                                                    refine rq_yearTax C hgX hfl hw had hO23 ml_L_91 (by omega) (by decide) (hmh) (by decide) (Nat.le_of_ble_eq_true rfl) ⟨Nat.le_of_ble_eq_true rfl, Nat.le_of_ble_eq_true rfl⟩ ⟨by dsimp only; omega, by dsimp only; omega⟩ dL_asks_503 ?_
                                                    intro Mq24 hO24 hk24
                                                    have hg24 : KF F M Mq24 := hg23.tr hk24
                                                    refine r_lcmp_le C (t := 512) dL_asks_506 dL_asks_507 (by decide) (fun c507 => ?_) (fun c507 => ?_)
                                                    · skip
                                                      refine r_iinc C (v := nI (p + 1)) (lo' := [(5, .int (nI (p + 1))), (0, .ref q), (1, .int y), (2, .int (nI g)), (3, .long T2), (8, .int (nI mh)), (20, .int (nI k))]) 4 dL_asks_512 rfl (nI_addI p 1) (by decide) rfl ?_
                                                      refine V.widen (k := 1005 * (p + 1)) (n := 6030 * (p + 1)) (by omega) (by omega) ?_
                                                      refine r_goto C (t := 5) dL_asks_515 (by decide) ?_
                                                      refine V.sub [1, 2, 3, 4, 0] (lo' := [(0, .ref q), (1, .int y), (2, .int (nI g)), (3, .long T2), (5, .int (nI (p + 1)))]) rfl ?_
                                                      exact ih5 Mq24 (p + 1) T2 (by omega) (by rw [hT2, hke3]; rfl) hO24 hg24 (by omega)
                                                    · exact absurd (hD p mh hp3 hmh) c507
                                                  refine r_iload C 4 dL_asks_462 rfl ?_
                                                  refine r_if_neN C (t := 482) (by omega) dL_asks_464 (by decide) (fun c464 => ?_) (fun c464 => ?_)
                                                  · skip
                                                    refine V.widen (k := 1005 * p + 1001) (n := 6030 * p + 6006) (by omega) (by omega) ?_
                                                    exact jn482 Mv hOv hgv
                                                  · skip
                                                    refine r_aload_n C 0 dL_asks_467 rfl rfl ?_
                                                    refine r_iload C 4 dL_asks_468 rfl ?_
                                                    refine r_iconst C (v := nI 0) dL_asks_470 (by decide) ?_
                                                    refine r_iload C 5 dL_asks_471 rfl ?_
                                                    refine r_lconst C (v := lN 0) dL_asks_473 (by decide) ?_
                                                    refine rq_yearTax C hgX hfl hw had hOv ml_L_91 (by omega) (by decide) (hmh) (by decide) (Nat.le_of_ble_eq_true rfl) ⟨Nat.le_of_ble_eq_true rfl, Nat.le_of_ble_eq_true rfl⟩ ⟨by dsimp only; omega, by dsimp only; omega⟩ dL_asks_474 ?_
                                                    intro Mq25 hO25 hk25
                                                    have hg25 : KF F M Mq25 := hgv.tr hk25
                                                    refine r_lconst C (v := lN 0) dL_asks_477 (by decide) ?_
                                                    refine r_lcmp_ne C (t := 510) dL_asks_478 dL_asks_479 (by decide) (fun c479 => ?_) (fun c479 => ?_)
                                                    · exact absurd (hC2 p mh c464 hmh) c479
                                                    · skip
                                                      refine V.widen (k := 1005 * p + 1001) (n := 6030 * p + 6006) (by omega) (by omega) ?_
                                                      exact jn482 Mq25 hO25 hg25
                                                · skip
                                                  have hk24 : k < 24 := by omega
                                                  refine r_lload_n C 3 dL_asks_444 rfl rfl ?_
                                                  refine r_aload_n C 0 dL_asks_445 rfl rfl ?_
                                                  refine r_iload C 4 dL_asks_446 rfl ?_
                                                  refine r_iload C 6 dL_asks_448 rfl ?_
                                                  refine r_iconst C (v := nI 5) dL_asks_450 (by decide) ?_
                                                  refine rq_slip C hgX hfl hw had hOv ml_L_61 (by omega) (by omega) (by omega) (Nat.le_of_ble_eq_true rfl) ⟨Nat.le_of_ble_eq_true rfl, Nat.le_of_ble_eq_true rfl⟩ ⟨by dsimp only; omega, by dsimp only; omega⟩ dL_asks_451 ?_
                                                  intro Mq26 hO26 hk26
                                                  have hg26 : KF F M Mq26 := hgv.tr hk26
                                                  refine r_ladd C dL_asks_454 ?_
                                                  refine r_lstore_n C (lo' := [(3, .long (T2 + (slL τ p k 5))), (0, .ref q), (1, .int y), (2, .int (nI g)), (5, .int (nI p)), (8, .int (nI mh)), (20, .int (nI k))]) dL_asks_455 rfl (by decide) rfl ?_
                                                  refine r_iinc C (v := nI (k + 1)) (lo' := [(20, .int (nI (k + 1))), (3, .long (T2 + (slL τ p k 5))), (0, .ref q), (1, .int y), (2, .int (nI g)), (5, .int (nI p)), (8, .int (nI mh))]) 6 dL_asks_456 rfl (nI_addI k 1) (by decide) rfl ?_
                                                  refine V.widen (k := 1005 * p + 951 + 2 * (k + 1)) (n := 6030 * p + 5706 + 12 * (k + 1)) (by omega) (by omega) ?_
                                                  refine r_goto C (t := 437) dL_asks_459 (by decide) ?_
                                                  refine V.sub [2, 3, 4, 1, 5, 6, 0] (lo' := [(0, .ref q), (1, .int y), (2, .int (nI g)), (3, .long (T2 + (slL τ p k 5))), (5, .int (nI p)), (8, .int (nI mh)), (20, .int (nI (k + 1)))]) rfl ?_
                                                  exact ih437 Mq26 (k + 1) (T2 + (slL τ p k 5)) (by omega) (by rw [hT2]; rfl) hO26 hg26 (by omega)
                                            refine V.sub [1, 2, 3, 4, 5, 7, 0] (lo' := [(0, .ref q), (1, .int y), (2, .int (nI g)), (3, .long T), (5, .int (nI p)), (8, .int (nI mh)), (20, .int (nI 0))]) rfl ?_
                                            exact lp437 _ Mq22 0 T (by omega) hT hO22 hg22 (Nat.lt_succ_self _)
                                          · exact absurd (by rw [hS2, hke2, hla]; first | done | rfl) c429
                                        · skip
                                          have hk51 : k < un τ 51 51 := by omega
                                          refine r_lload C 5 dL_asks_372 rfl ?_
                                          refine r_aload_n C 0 dL_asks_374 rfl rfl ?_
                                          refine r_iload C 8 dL_asks_375 rfl ?_
                                          refine r_iconst C (v := nI 0) dL_asks_377 (by decide) ?_
                                          refine rq_payment C hgX hfl hw had hO21 ml_L_88 (by omega) (by omega) (Nat.le_of_ble_eq_true rfl) ⟨Nat.le_of_ble_eq_true rfl, Nat.le_of_ble_eq_true rfl⟩ ⟨by dsimp only; omega, by dsimp only; omega⟩ dL_asks_378 ?_
                                          intro Mq27 hO27 hk27
                                          have hg27 : KF F M Mq27 := hg21.tr hk27
                                          refine r_iload C 4 dL_asks_381 rfl ?_
                                          refine r_i2lN C (by omega) dL_asks_383 ?_
                                          refine r_lcmp_ne C (t := 410) dL_asks_384 dL_asks_385 (by decide) (fun c385 => ?_) (fun c385 => ?_)
                                          · skip
                                            refine r_lconst C (v := lN 0) dL_asks_410 (by decide) ?_
                                            refine r_lsub C dL_asks_411 ?_
                                            refine r_lstore C (lo' := [(6, .long (S - (lN 0))), (0, .ref q), (1, .int y), (2, .int (nI g)), (3, .long T), (5, .int (nI p)), (8, .int (nI mh)), (19, .int (nI la)), (20, .int (nI k))]) dL_asks_412 (by decide) rfl ?_
                                            refine r_iinc C (v := nI (k + 1)) (lo' := [(20, .int (nI (k + 1))), (6, .long (S - (lN 0))), (0, .ref q), (1, .int y), (2, .int (nI g)), (3, .long T), (5, .int (nI p)), (8, .int (nI mh)), (19, .int (nI la))]) 8 dL_asks_414 rfl (nI_addI k 1) (by decide) rfl ?_
                                            refine V.widen (k := 1005 * p + 86 + 6 * (k + 1)) (n := 6030 * p + 516 + 36 * (k + 1)) (by omega) (by omega) ?_
                                            refine r_goto C (t := 363) dL_asks_417 (by decide) ?_
                                            refine V.sub [2, 3, 4, 5, 6, 1, 7, 8, 0] (lo' := [(0, .ref q), (1, .int y), (2, .int (nI g)), (3, .long T), (5, .int (nI p)), (6, .long (S - (lN 0))), (8, .int (nI mh)), (19, .int (nI la)), (20, .int (nI (k + 1)))]) rfl ?_
                                            exact ih363 Mq27 (k + 1) (S - (lN 0)) (by omega) (by rw [hS2]; show _ = pdL τ p _ k - _; rw [if_neg (fun h_ => c385 (by rw [← h_.1]; rfl))]) hO27 hg27 (by omega)
                                          · skip
                                            refine r_aload_n C 0 dL_asks_388 rfl rfl ?_
                                            refine r_iload C 8 dL_asks_389 rfl ?_
                                            refine r_iconst C (v := nI 3) dL_asks_391 (by decide) ?_
                                            refine rq_payment C hgX hfl hw had hO27 ml_L_88 (by omega) (by omega) (Nat.le_of_ble_eq_true rfl) ⟨Nat.le_of_ble_eq_true rfl, Nat.le_of_ble_eq_true rfl⟩ ⟨by dsimp only; omega, by dsimp only; omega⟩ dL_asks_392 ?_
                                            intro Mq28 hO28 hk28
                                            have hg28 : KF F M Mq28 := hg27.tr hk28
                                            refine r_lconst C (v := lN 0) dL_asks_395 (by decide) ?_
                                            refine r_lcmp_ne C (t := 410) dL_asks_396 dL_asks_397 (by decide) (fun c397 => ?_) (fun c397 => ?_)
                                            · skip
                                              refine r_lconst C (v := lN 0) dL_asks_410 (by decide) ?_
                                              refine r_lsub C dL_asks_411 ?_
                                              refine r_lstore C (lo' := [(6, .long (S - (lN 0))), (0, .ref q), (1, .int y), (2, .int (nI g)), (3, .long T), (5, .int (nI p)), (8, .int (nI mh)), (19, .int (nI la)), (20, .int (nI k))]) dL_asks_412 (by decide) rfl ?_
                                              refine r_iinc C (v := nI (k + 1)) (lo' := [(20, .int (nI (k + 1))), (6, .long (S - (lN 0))), (0, .ref q), (1, .int y), (2, .int (nI g)), (3, .long T), (5, .int (nI p)), (8, .int (nI mh)), (19, .int (nI la))]) 8 dL_asks_414 rfl (nI_addI k 1) (by decide) rfl ?_
                                              refine V.widen (k := 1005 * p + 86 + 6 * (k + 1)) (n := 6030 * p + 516 + 36 * (k + 1)) (by omega) (by omega) ?_
                                              refine r_goto C (t := 363) dL_asks_417 (by decide) ?_
                                              refine V.sub [2, 3, 4, 5, 6, 1, 7, 8, 0] (lo' := [(0, .ref q), (1, .int y), (2, .int (nI g)), (3, .long T), (5, .int (nI p)), (6, .long (S - (lN 0))), (8, .int (nI mh)), (19, .int (nI la)), (20, .int (nI (k + 1)))]) rfl ?_
                                              exact ih363 Mq28 (k + 1) (S - (lN 0)) (by omega) (by rw [hS2]; show _ = pdL τ p _ k - _; rw [if_neg (fun h_ => c397 (by show lN (un τ 50 k) = lN 0; rw [h_.2]))]) hO28 hg28 (by omega)
                                            · skip
                                              refine r_aload_n C 0 dL_asks_400 rfl rfl ?_
                                              refine r_iload C 8 dL_asks_401 rfl ?_
                                              refine r_iconst C (v := nI 2) dL_asks_403 (by decide) ?_
                                              refine rq_payment C hgX hfl hw had hO28 ml_L_88 (by omega) (by omega) (Nat.le_of_ble_eq_true rfl) ⟨Nat.le_of_ble_eq_true rfl, Nat.le_of_ble_eq_true rfl⟩ ⟨by dsimp only; omega, by dsimp only; omega⟩ dL_asks_404 ?_
                                              intro Mq29 hO29 hk29
                                              have hg29 : KF F M Mq29 := hg28.tr hk29
                                              refine r_goto C (t := 411) dL_asks_407 (by decide) ?_
                                              refine r_lsub C dL_asks_411 ?_
                                              refine r_lstore C (lo' := [(6, .long (S - (pmL τ k 2))), (0, .ref q), (1, .int y), (2, .int (nI g)), (3, .long T), (5, .int (nI p)), (8, .int (nI mh)), (19, .int (nI la)), (20, .int (nI k))]) dL_asks_412 (by decide) rfl ?_
                                              refine r_iinc C (v := nI (k + 1)) (lo' := [(20, .int (nI (k + 1))), (6, .long (S - (pmL τ k 2))), (0, .ref q), (1, .int y), (2, .int (nI g)), (3, .long T), (5, .int (nI p)), (8, .int (nI mh)), (19, .int (nI la))]) 8 dL_asks_414 rfl (nI_addI k 1) (by decide) rfl ?_
                                              refine V.widen (k := 1005 * p + 86 + 6 * (k + 1)) (n := 6030 * p + 516 + 36 * (k + 1)) (by omega) (by omega) ?_
                                              refine r_goto C (t := 363) dL_asks_417 (by decide) ?_
                                              refine V.sub [2, 3, 4, 5, 6, 1, 7, 8, 0] (lo' := [(0, .ref q), (1, .int y), (2, .int (nI g)), (3, .long T), (5, .int (nI p)), (6, .long (S - (pmL τ k 2))), (8, .int (nI mh)), (19, .int (nI la)), (20, .int (nI (k + 1)))]) rfl ?_
                                              exact ih363 Mq29 (k + 1) (S - (pmL τ k 2)) (by omega) (by rw [hS2]; show _ = pdL τ p _ k - _; rw [if_pos ⟨lN_inj (by have h_ := (hw.pw k hk51).2; omega) (by omega) c385, lN_inj (by have h_ := (hw.pb k hk51).2; omega) (by omega) c397⟩]; rfl) hO29 hg29 (by omega)
                                    refine V.sub [1, 2, 3, 4, 5, 6, 7, 8, 0] (lo' := [(0, .ref q), (1, .int y), (2, .int (nI g)), (3, .long T), (5, .int (nI p)), (6, .long S), (8, .int (nI mh)), (19, .int (nI la)), (20, .int (nI 0))]) rfl ?_
                                    exact lp363 _ My 0 S (by omega) (by rw [hS, hke]; rfl) hOy hgy (Nat.lt_succ_self _)
                                  · skip
                                    refine r_lload C 5 dL_asks_339 rfl ?_
                                    refine r_aload_n C 0 dL_asks_341 rfl rfl ?_
                                    refine r_iload C 4 dL_asks_342 rfl ?_
                                    refine r_iload C 8 dL_asks_344 rfl ?_
                                    refine r_bipush C (v := nI 6) dL_asks_346 (by decide) ?_
                                    refine rq_slip C hgX hfl hw had hOy ml_L_61 (by omega) (by omega) (by omega) (Nat.le_of_ble_eq_true rfl) ⟨Nat.le_of_ble_eq_true rfl, Nat.le_of_ble_eq_true rfl⟩ ⟨by dsimp only; omega, by dsimp only; omega⟩ dL_asks_348 ?_
                                    intro Mq30 hO30 hk30
                                    have hg30 : KF F M Mq30 := hgy.tr hk30
                                    refine r_ladd C dL_asks_351 ?_
                                    refine r_lstore C (lo' := [(6, .long (S + (slL τ p k 6))), (0, .ref q), (1, .int y), (2, .int (nI g)), (3, .long T), (5, .int (nI p)), (8, .int (nI mh)), (19, .int (nI la)), (20, .int (nI k))]) dL_asks_352 (by decide) rfl ?_
                                    refine r_iinc C (v := nI (k + 1)) (lo' := [(20, .int (nI (k + 1))), (6, .long (S + (slL τ p k 6))), (0, .ref q), (1, .int y), (2, .int (nI g)), (3, .long T), (5, .int (nI p)), (8, .int (nI mh)), (19, .int (nI la))]) 8 dL_asks_354 rfl (nI_addI k 1) (by decide) rfl ?_
                                    refine V.widen (k := 1005 * p + 38 + 2 * (k + 1)) (n := 6030 * p + 228 + 12 * (k + 1)) (by omega) (by omega) ?_
                                    refine r_goto C (t := 332) dL_asks_357 (by decide) ?_
                                    refine V.sub [2, 3, 4, 5, 6, 1, 7, 8, 0] (lo' := [(0, .ref q), (1, .int y), (2, .int (nI g)), (3, .long T), (5, .int (nI p)), (6, .long (S + (slL τ p k 6))), (8, .int (nI mh)), (19, .int (nI la)), (20, .int (nI (k + 1)))]) rfl ?_
                                    exact ih332 Mq30 (k + 1) (S + (slL τ p k 6)) (by omega) (by rw [hS]; rfl) hO30 hg30 (by omega)
                              refine V.sub [9, 10, 11, 12, 13, 8, 7, 1, 0] (lo' := [(0, .ref q), (1, .int y), (2, .int (nI g)), (3, .long T), (5, .int (nI p)), (6, .long (lN 0)), (8, .int (nI mh)), (19, .int (nI la)), (20, .int (nI 0))]) rfl ?_
                              exact lp332 _ Mj 0 (lN 0) (by omega) rfl hOj hgj (Nat.lt_succ_self _)
                            refine r_aload_n C 7 dL_asks_309 rfl rfl ?_
                            refine rq_open C hgX hfl hw had hO20 ml_L_72  (Nat.le_of_ble_eq_true rfl) ⟨Nat.le_of_ble_eq_true rfl, Nat.le_of_ble_eq_true rfl⟩ ⟨by dsimp only; omega, by dsimp only; omega⟩ dL_asks_310 ?_
                            intro Mq31 hO31 hk31
                            have hg31 : KF F M Mq31 := hg20.tr hk31
                            refine r_bipush C (v := nI 24) dL_asks_313 (by decide) ?_
                            refine r_icmp_geN C (t := 325) (by omega) (by omega) dL_asks_315 (by decide) (fun c315 => ?_) (fun c315 => ?_)
                            · skip
                              have ho24 : un τ 46 46 = 24 := by omega
                              refine r_bipush C (v := nI 23) dL_asks_325 (by decide) ?_
                              refine V.widen (k := 1005 * p + 38) (n := 6030 * p + 228) (by omega) (by omega) ?_
                              exact jn327 Mq31 23 (by rw [if_pos (by omega)]) hO31 hg31
                            · skip
                              have ho24 : un τ 46 46 < 24 := by omega
                              refine r_aload_n C 7 dL_asks_318 rfl rfl ?_
                              refine rq_open C hgX hfl hw had hO31 ml_L_72  (Nat.le_of_ble_eq_true rfl) ⟨Nat.le_of_ble_eq_true rfl, Nat.le_of_ble_eq_true rfl⟩ ⟨by dsimp only; omega, by dsimp only; omega⟩ dL_asks_319 ?_
                              intro Mq32 hO32 hk32
                              have hg32 : KF F M Mq32 := hg31.tr hk32
                              refine r_goto C (t := 327) dL_asks_322 (by decide) ?_
                              refine V.widen (k := 1005 * p + 38) (n := 6030 * p + 228) (by omega) (by omega) ?_
                              exact jn327 Mq32 (un τ 46 46) (by rw [if_neg (by omega)]) hO32 hg32
                          · exact absurd (hB p mh hp3 hmh).2.2.2.2.2.2 c304
                  refine r_lload C 0 dL_asks_229 rfl ?_
                  refine r_lconst C (v := lN 0) dL_asks_231 (by decide) ?_
                  refine r_lcmp_le C (t := 244) dL_asks_232 dL_asks_233 (by decide) (fun c233 => ?_) (fun c233 => ?_)
                  · skip
                    exact jn244
                  · skip
                    refine r_lload C 0 dL_asks_236 rfl ?_
                    refine r_lload C 1 dL_asks_238 rfl ?_
                    refine r_lcmp_gt C (t := 307) dL_asks_240 dL_asks_241 (by decide) (fun c241 => ?_) (fun c241 => ?_)
                    · exact absurd c241 ((hB p mh hp3 hmh).2.2.1 c233)
                    · skip
                      exact jn244
              · exact absurd (hB p mh hp3 hmh).1 c206
  refine V.sub [2, 3, 4, 1, 0] (lo' := [(0, .ref q), (1, .int y), (2, .int (nI g)), (3, .long (lN 0)), (5, .int (nI 0))]) rfl ?_
  exact lp5 _ M 0 (lN 0) (by omega) rfl hO KF.rf (Nat.lt_succ_self _)
