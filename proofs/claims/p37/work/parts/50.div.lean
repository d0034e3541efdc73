/-! THE CLASS: division, steps -/
def fdvL (x y : Int64) : Int64 := if x ^^^ y < lN 0 ∧ ¬ x / y * y = x then x / y - lN 1 else x / y
theorem neg_iff (z : Int64) : z < lN 0 ↔ z.toBitVec.msb = true := by
  rw [Int64.lt_iff_toInt_lt, show (lN 0).toInt = 0 from rfl, BitVec.msb_eq_toInt, decide_eq_true_iff]; rfl
theorem xor_neg {x y : Int64} (hy : 0 < y.toInt) : x ^^^ y < lN 0 ↔ x < lN 0 := by
  have h : y.toBitVec.msb = false := by
    rw [BitVec.msb_eq_toInt, decide_eq_false_iff_not]
    show ¬ y.toInt < 0
    omega
  rw [neg_iff, neg_iff, Int64.toBitVec_xor, BitVec.msb_xor, h, Bool.xor_false]
theorem tm_facts (a b : Int) : (0 ≤ a → 0 ≤ a.tmod b ∧ a.tmod b ≤ a) ∧ (a < 0 → a ≤ a.tmod b ∧ a.tmod b ≤ 0) := by
  have h1 := Int.natAbs_tmod a b
  have h2 : a.natAbs % b.natAbs ≤ a.natAbs := Nat.mod_le _ _
  refine ⟨fun h => ?_, fun h => ?_⟩
  · have := Int.tmod_nonneg b h
    omega
  · have h3 : a.tmod b ≤ 0 := by
      have e : a.tmod b = -((-a).tmod b) := by rw [Int.neg_tmod, Int.neg_neg]
      have := Int.tmod_nonneg b (show 0 ≤ -a by omega)
      omega
    omega
theorem td_facts (a b : Int) (hb : 0 < b) : (0 ≤ a → 0 ≤ a.tdiv b) ∧ (a < 0 → a.tdiv b ≤ 0) := by
  refine ⟨fun h => Int.tdiv_nonneg h (by omega), fun h => ?_⟩
  have e : a.tdiv b = -((-a).tdiv b) := by rw [Int.neg_tdiv, Int.neg_neg]
  have := Int.tdiv_nonneg (show 0 ≤ -a by omega) (show 0 ≤ b by omega)
  omega
theorem div_facts {x y : Int64} (hy : 0 < y.toInt) : (x - x / y * y).toInt = x.toInt.tmod y.toInt ∧ (x / y * y).toInt = x.toInt - x.toInt.tmod y.toInt := by
  have hx1 := Int64.toInt_lt x
  have hx2 := Int64.le_toInt x
  have t := tm_facts x.toInt y.toInt
  have d := td_facts x.toInt y.toInt hy
  have n := Int.natAbs_tdiv_le_natAbs x.toInt y.toInt
  have ht := Int.mul_tdiv_add_tmod x.toInt y.toInt
  have hq : (x / y).toInt = x.toInt.tdiv y.toInt := by
    rw [Int64.toInt_div, Int.bmod_eq_of_le (by omega) (by omega)]
  have hm : (x / y * y).toInt = x.toInt - x.toInt.tmod y.toInt := by
    rw [Int64.toInt_mul, hq, Int.mul_comm, show y.toInt * x.toInt.tdiv y.toInt = x.toInt - x.toInt.tmod y.toInt by omega, Int.bmod_eq_of_le (by omega) (by omega)]
  refine ⟨?_, hm⟩
  rw [Int64.toInt_sub, hm, show x.toInt - (x.toInt - x.toInt.tmod y.toInt) = x.toInt.tmod y.toInt by omega, Int.bmod_eq_of_le (by omega) (by omega)]
theorem fdv_dwn {x y : Int64} (hy : 0 < y.toInt) : fdvL x y = dwnL x y := by
  obtain ⟨h1, h2⟩ := div_facts (x := x) hy
  unfold fdvL dwnL
  have hc : (x ^^^ y < lN 0 ∧ ¬ x / y * y = x) ↔ x - x / y * y < 0 := by
    rw [xor_neg hy, Int64.lt_iff_toInt_lt, Int64.lt_iff_toInt_lt, h1, show (lN 0).toInt = 0 from rfl, show (0 : Int64).toInt = 0 from rfl, ← Int64.toInt_inj, h2]
    have t := tm_facts x.toInt y.toInt
    constructor
    · rintro ⟨a, b⟩; omega
    · intro a; exact ⟨by omega, by omega⟩
  exact if_cg hc


theorem fdv_val (x y : Int64) : Jvm.Free.JP.Math_floorDiv_JJ.val x y = fdvL x y := by
  unfold Jvm.Free.JP.Math_floorDiv_JJ.val fdvL
  by_cases h : x ^^^ y < lN 0
  · have h' : x ^^^ y < 0 := h
    by_cases g : x / y * y = x
    · rw [if_pos h', if_pos g, if_neg (fun q => q.2 g)]
    · rw [if_pos h', if_neg g, if_pos ⟨h, g⟩]; rfl
  · have h' : ¬ x ^^^ y < 0 := h
    rw [if_neg h', if_neg (fun q => h q.1)]
def FD (own : String) (idx : Nat) : Prop := Cond.methodLink own idx Jvm.Free.JP.Math_floorDiv_JJ.yN ∈ tw_big ∧ Cond.static Jvm.Free.JP.Math_floorDiv_JJ.yN ∈ tw_big ∧ Cond.code Jvm.Free.JP.Math_floorDiv_JJ.yN Jvm.Free.JP.Math_floorDiv_JJ.yB 6 (some .long) ∈ tw_big ∧ Cond.initialized "java/lang/Math" ∈ tw_big
section RowsFD
variable {p : Program} {l : Launch} {e : Env} {R : Room} {s : State} {m : MethodId} {args : Array Value} {below : List Frame} {meth : Method} {c : Code} {G : gW} {own : String} {cc : ByteArray} {Q : State → Prop} {nL : Nat} {M : Mem} {cells slots pc : Nat} {lo : List (Nat × Value)} {st : List Value}
theorem r_fdiv (Cc : Cx p l s m args meth c G own cc nL) {x y : Int64} {idx : Nat} (L : FD own idx) (hy : ¬ y = 0) (hF : 1 ≤ R.frames) (hl : (st.map fun v => v.category).sum + 17 ≤ R.locals) (hc : cells ≤ R.cells) (hs : slots ≤ R.slots) (hd : decode cc pc = .ok (.invokestatic idx, 3))
    (kk : V p l e R s m args below meth c G Q nL M cells slots (pc + 3) lo (.long (fdvL x y) :: st)) : V p l e R s m args below meth c G Q nL M cells slots pc lo (.long y :: .long x :: st) := by
  intro H locs ls h1 h2 h3 T hT X
  obtain ⟨v, T', X', E, g⟩ := X.callS Cc.1 (Jvm.Free.JP.Math_floorDiv_JJ.law l x y) Cc.2.2.1 (own := own) (index := idx)
    (fun w hw => Cc.2.2.2.1 w (by
      simp only [Jvm.Free.XT.staticW, List.mem_cons, List.not_mem_nil, or_false] at hw
      rcases hw with rfl | rfl
      · exact L.1
      · exact L.2.1))
    (by
      have a1 := Cc.2.2.2.1 _ L.2.2.1
      have a2 := Cc.2.2.2.1 _ L.2.2.2
      simp [Jvm.Free.XT.tabOf, Jvm.Free.JP.Math_floorDiv_JJ.site, conj, Cond.before_and] 
      exact ⟨a1, a2⟩)
    (W := (st.map fun v => v.category).sum) (by omega) (by omega) (by omega) (by omega) (g := F0 m pc ls (.long y :: .long x :: st)) rfl (by rw [Cc.2.2.2.2.2.2.2.1]; exact h3.1) (Steps.refl _) (argsL := [.long x, .long y]) (rest := st) rfl rfl (by show 2 * 0 + _ ≤ _; omega) (by rw [Cc.2.1]; exact hd) ⟨rfl, hy⟩
  obtain ⟨rfl, q⟩ := E
  obtain ⟨t, a, b⟩ := kk H locs ls h1 h2 h3 T' (q.trans hT) (by simpa using X')
  exact ⟨t, g.trans (by rw [fdv_val]; exact a), b⟩
end RowsFD
theorem kd_X2_9 : FD RX2 9 := ⟨tw_i 1085 (by decide +kernel) rfl, tw_i 1086 (by decide +kernel) rfl, tw_i 1087 (by decide +kernel) rfl, tw_i 8 (by decide +kernel) rfl⟩

