/-! A FORMULA OF FIVE WORDS -/
section Five
variable {τ : Mu} {p m : Nat}
theorem form5x {e : Nat} (hf : fmOK τ e (un τ 24 e) ∧ fmD τ e (un τ 24 e) = 1) (h5 : un τ 24 e = 5) :
    (un τ 22 (10 * e + 0) < 4 ∧ un τ 22 (10 * e + 1) < 4 ∧ un τ 22 (10 * e + 3) < 4 ∧ ∀ cm b h, formL τ cm b h e = keptL (joinL (un τ 22 (10 * e + 4)) (keptL (joinL (un τ 22 (10 * e + 2)) (keptL (singL τ cm b h (10 * e + 0))) (keptL (singL τ cm b h (10 * e + 1))))) (keptL (singL τ cm b h (10 * e + 3))))) ∨
    (un τ 22 (10 * e + 0) < 4 ∧ un τ 22 (10 * e + 1) < 4 ∧ un τ 22 (10 * e + 2) < 4 ∧ ∀ cm b h, formL τ cm b h e = keptL (joinL (un τ 22 (10 * e + 4)) (keptL (singL τ cm b h (10 * e + 0))) (keptL (joinL (un τ 22 (10 * e + 3)) (keptL (singL τ cm b h (10 * e + 1))) (keptL (singL τ cm b h (10 * e + 2))))))) := by
  obtain ⟨hf, hl⟩ := hf
  obtain ⟨w0, d1⟩ := fm_lo hf (k := 0) (D := 0) (by omega) rfl (by decide)
  have d1 : fmD τ e 1 = 1 := d1
  obtain ⟨w1, d2⟩ := fm_lo hf (k := 1) (D := 1) (by omega) d1 (by decide)
  have d2 : fmD τ e 2 = 2 := d2
  rw [h5] at hl
  rcases fm_st (k := 2) (D := 2) d2 with ⟨w2, d3⟩ | ⟨w2, d3⟩
  · have d3 : fmD τ e 3 = 3 := d3
    rcases fm_st (k := 3) (D := 3) d3 with ⟨w3, d4⟩ | ⟨w3, d4⟩
    · have d4 : fmD τ e 4 = 4 := d4
      rcases fm_st (k := 4) (D := 4) d4 with ⟨w4, d5⟩ | ⟨w4, d5⟩
      · have d5 : fmD τ e 5 = 5 := d5
        omega
      · have d5 : fmD τ e 5 = 3 := d5
        omega
    · have d4 : fmD τ e 4 = 2 := d4
      rcases fm_st (k := 4) (D := 2) d4 with ⟨w4, d5⟩ | ⟨w4, d5⟩
      · have d5 : fmD τ e 5 = 3 := d5
        omega
      · right
        refine ⟨w0, w1, w2, fun cm b h => ?_⟩
        unfold formL
        rw [h5, fmP_j (k := 4) (D := 2) w4 d4, fmP_j (k := 3) (D := 3) w3 d3, fmP_s (k := 2) (D := 2) w2 d2, fmP_s (k := 1) (D := 1) w1 d1, fmP_s (k := 0) (D := 0) w0 rfl]
        show vp_updL _ 0 (keptL (joinL _ (vp_updL (vp_updL (vp_updL (vp_updL _ 0 _) 1 _) 2 _) 1 (keptL (joinL _ (vp_updL (vp_updL (vp_updL _ 0 _) 1 _) 2 _ 1) (vp_updL (vp_updL (vp_updL _ 0 _) 1 _) 2 _ 2))) 0) (vp_updL (vp_updL (vp_updL (vp_updL _ 0 _) 1 _) 2 _) 1 (keptL (joinL _ (vp_updL (vp_updL (vp_updL _ 0 _) 1 _) 2 _ 1) (vp_updL (vp_updL (vp_updL _ 0 _) 1 _) 2 _ 2))) 1))) 0 = _
        simp only [pk_uLs, pk_uLn (show (0 : Nat) ≠ 1 by decide), pk_uLn (show (0 : Nat) ≠ 2 by decide), pk_uLn (show (1 : Nat) ≠ 2 by decide)]
  · have d3 : fmD τ e 3 = 1 := d3
    obtain ⟨w3, d4⟩ := fm_lo hf (k := 3) (D := 1) (by omega) d3 (by decide)
    have d4 : fmD τ e 4 = 2 := d4
    rcases fm_st (k := 4) (D := 2) d4 with ⟨w4, d5⟩ | ⟨w4, d5⟩
    · have d5 : fmD τ e 5 = 3 := d5
      omega
    · left
      refine ⟨w0, w1, w3, fun cm b h => ?_⟩
      unfold formL
      rw [h5, fmP_j (k := 4) (D := 2) w4 d4, fmP_s (k := 3) (D := 1) w3 d3, fmP_j (k := 2) (D := 2) w2 d2, fmP_s (k := 1) (D := 1) w1 d1, fmP_s (k := 0) (D := 0) w0 rfl]
      show vp_updL _ 0 (keptL (joinL _ (vp_updL (vp_updL (vp_updL (vp_updL _ 0 _) 1 _) 0 (keptL (joinL _ (vp_updL (vp_updL _ 0 _) 1 _ 0) (vp_updL (vp_updL _ 0 _) 1 _ 1)))) 1 _ 0) (vp_updL (vp_updL (vp_updL (vp_updL _ 0 _) 1 _) 0 (keptL (joinL _ (vp_updL (vp_updL _ 0 _) 1 _ 0) (vp_updL (vp_updL _ 0 _) 1 _ 1)))) 1 _ 1))) 0 = _
      simp only [pk_uLs, pk_uLn (show (0 : Nat) ≠ 1 by decide), pk_uLn (show (1 : Nat) ≠ 0 by decide)]
/-- a leaf is the base or a small number -/
def Leaf (τ : Mu) (i : Nat) : Prop := (∀ cm b, singL τ cm (lN b) (lN 0) i = lN b) ∨ ∃ k, k ≤ 6 ∧ ∀ cm b, singL τ cm (lN b) (lN 0) i = lN k
theorem leaf_of {e j : Nat} (hm : MO τ) (he : e < 7) (hj : j < un τ 24 e) (h4 : un τ 22 (10 * e + j) < 4) (hn : un τ 22 (10 * e + j) = 2 → un τ 26 26 ≤ un τ 23 (10 * e + j)) : Leaf τ (10 * e + j) := by
  rcases (show un τ 22 (10 * e + j) = 0 ∨ un τ 22 (10 * e + j) = 1 ∨ un τ 22 (10 * e + j) = 2 ∨ un τ 22 (10 * e + j) = 3 by omega) with h | h | h | h
  · exact .inl fun cm b => if_pos h
  · refine .inr ⟨0, by decide, fun cm b => ?_⟩
    unfold singL
    rw [h]; rfl
  · refine .inr ⟨0, by decide, fun cm b => ?_⟩
    have := hn h
    unfold singL
    rw [if_neg (by omega), if_neg (by omega), if_neg (by omega), if_neg (by omega)]
  · obtain ⟨k, hk, e1⟩ := hm e j he hj h
    refine .inr ⟨k, hk, fun cm b => ?_⟩
    unfold singL
    rw [if_neg (by omega), if_neg (by omega), if_pos h, e1, ← Int64.toInt_inj, Int32.toInt_toInt64, nI_toInt (by omega), pk_lT (by omega)]
theorem kept_N {n : Nat} (h : n < 2 ^ 60) : keptL (lN n) = lN (min n 100000000) := by
  unfold keptL
  by_cases c : 100000000 < n
  · rw [if_pos ((pk_lLT (by decide) (by omega)).mpr c), Nat.min_eq_right (by omega)]
  · rw [if_neg (fun z => c ((pk_lLT (by decide) (by omega)).mp z)), if_neg (by rw [Int64.lt_iff_toInt_lt, pk_lT (by omega), show (-100000000 : Int64).toInt = -100000000 by decide]; omega), Nat.min_eq_left (by omega)]
theorem jn1 {w A : Nat} {a z : Int64} (hw : w ≠ 6) (ha : bdL a A) (hz : bdL z 4000) (hA : A ≤ 2 ^ 40) : bdL (joinL w a z) (A * 4 + 4000) := by
  have b1 : bdL a (A * 4 + 4000) := bd_mono ha (by omega)
  have b2 : bdL z (A * 4 + 4000) := bd_mono hz (by omega)
  unfold joinL
  split
  · exact bd_mono (bd_add ha hz (by omega)) (by omega)
  · split
    · exact bd_mono (bd_sub ha hz (by omega)) (by omega)
    · skip
      · split
        · have m := (mul_I ha hz (by omega)).2
          have r := rnd_I m (b := 1000) (by decide) (by omega)
          obtain ⟨m1, m2⟩ := m
          refine ⟨?_, ?_⟩ <;> rw [r] <;> omega
        · split
          · split
            · exact b1
            · exact b2
          · split
            · exact b1
            · exact b2
theorem jn2 {w A : Nat} {a z : Int64} (hw : w ≠ 6) (ha : bdL a A) (hz : bdL z 4000) (hA : A ≤ 2 ^ 40) : bdL (joinL w z a) (A * 4 + 4000) := by
  have b1 : bdL a (A * 4 + 4000) := bd_mono ha (by omega)
  have b2 : bdL z (A * 4 + 4000) := bd_mono hz (by omega)
  unfold joinL
  split
  · exact bd_mono (bd_add hz ha (by omega)) (by omega)
  · split
    · exact bd_mono (bd_sub hz ha (by omega)) (by omega)
    · skip
      · split
        · have m := (mul_I hz ha (by omega)).2
          have r := rnd_I m (b := 1000) (by decide) (by omega)
          obtain ⟨m1, m2⟩ := m
          refine ⟨?_, ?_⟩ <;> rw [r] <;> omega
        · split
          · split
            · exact b2
            · exact b1
          · split
            · exact b2
            · exact b1
theorem j6 {x y : Nat} : joinL 6 (lN x) (lN y) = lN (x * y) := by
  unfold joinL
  rw [if_neg (by decide), if_neg (by decide), if_pos rfl]
  exact lN_mul x y
/-- two joins of small numbers: a product of all, or not much -/
theorem two_j {w v x y z : Nat} (hx : x ≤ 3999) (hy : y ≤ 3999) (hz : z ≤ 3999) : ((w = 6 ∧ v = 6) ∧ keptL (joinL v (keptL (joinL w (keptL (lN x)) (keptL (lN y)))) (keptL (lN z))) = lN (min (x * y * z) 100000000) ∧ keptL (joinL v (keptL (lN z)) (keptL (joinL w (keptL (lN x)) (keptL (lN y))))) = lN (min (x * y * z) 100000000)) ∨
    (¬ (w = 6 ∧ v = 6) ∧ (keptL (joinL v (keptL (joinL w (keptL (lN x)) (keptL (lN y)))) (keptL (lN z)))).toInt ≤ 80000000 ∧ (keptL (joinL v (keptL (lN z)) (keptL (joinL w (keptL (lN x)) (keptL (lN y)))))).toInt ≤ 80000000) := by
  have kx : keptL (lN x) = lN x := by rw [kept_N (by omega), Nat.min_eq_left (by omega)]
  have ky : keptL (lN y) = lN y := by rw [kept_N (by omega), Nat.min_eq_left (by omega)]
  have kz : keptL (lN z) = lN z := by rw [kept_N (by omega), Nat.min_eq_left (by omega)]
  have hxy : x * y ≤ 3999 * 3999 := Nat.mul_le_mul hx hy
  have hxyz : x * y * z ≤ 3999 * 3999 * 3999 := Nat.mul_le_mul hxy hz
  have bx : bdL (lN x) 4000 := bd_lN (by omega) (by decide)
  have by_ : bdL (lN y) 4000 := bd_lN (by omega) (by decide)
  have bz : bdL (lN z) 4000 := bd_lN (by omega) (by decide)
  rw [kx, ky, kz]
  by_cases cw : w = 6
  · subst cw
    have ki : keptL (joinL 6 (lN x) (lN y)) = lN (x * y) := by rw [j6, kept_N (by omega), Nat.min_eq_left (by omega)]
    rw [ki]
    by_cases cv : v = 6
    · subst cv
      left
      exact ⟨⟨rfl, rfl⟩, by rw [j6, kept_N (by omega)], by rw [j6, kept_N (by rw [Nat.mul_comm]; omega), Nat.mul_comm z]⟩
    · right
      have bi : bdL (lN (x * y)) 15992001 := bd_lN (by omega) (by decide)
      exact ⟨fun h => cv h.2, by have := (kept_bd (jn1 cv bi bz (by decide))).2; omega, by have := (kept_bd (jn2 cv bi bz (by decide))).2; omega⟩
  · right
    have bi : bdL (keptL (joinL w (lN x) (lN y))) 20000 := kept_bd (jn1 cw bx by_ (by decide))
    refine ⟨fun h => cw h.1, ?_, ?_⟩
    · by_cases cv : v = 6
      · subst cv
        have b6 : bdL (joinL 6 (keptL (joinL w (lN x) (lN y))) (lN z)) (20000 * 4000) := (mul_I bi bz (by decide)).2
        have := (kept_bd b6).2
        omega
      · have := (kept_bd (jn1 cv bi bz (by decide))).2
        omega
    · by_cases cv : v = 6
      · subst cv
        have b6 : bdL (joinL 6 (lN z) (keptL (joinL w (lN x) (lN y)))) (4000 * 20000) := (mul_I bz bi (by decide)).2
        have := (kept_bd b6).2
        omega
      · have := (kept_bd (jn2 cv bi bz (by decide))).2
        omega
/-- what the formula comes to by the base, nothing else being there -/
def FX (τ : Mu) (x b : Nat) : Int := (formL τ (fun _ => lN 0) (lN b) (lN 0) x).toInt
def Cl (f : Nat → Int) : Prop := (∀ b, b ≤ 3999 → f b ≤ 80000000) ∨ (∀ b, b ≤ 3999 → f b = ((min (b * b * b) 100000000 : Nat) : Int)) ∨ ∃ k, k ≤ 6 ∧ ∀ b, b ≤ 3999 → f b = ((k * (b * b) : Nat) : Int)
/-- three leaves: which product they make -/
theorem three (a1 a2 a3 : Nat → Nat) (h1 : (∀ b, a1 b = b) ∨ ∃ k, k ≤ 6 ∧ ∀ b, a1 b = k) (h2 : (∀ b, a2 b = b) ∨ ∃ k, k ≤ 6 ∧ ∀ b, a2 b = k) (h3 : (∀ b, a3 b = b) ∨ ∃ k, k ≤ 6 ∧ ∀ b, a3 b = k) : Cl (fun b => ((min (a1 b * a2 b * a3 b) 100000000 : Nat) : Int)) := by
  have sq : ∀ b, b ≤ 3999 → b * b ≤ 3999 * 3999 := fun b hb => Nat.mul_le_mul hb hb
  have two : ∀ k b, k ≤ 6 → b ≤ 3999 → k * (b * b) ≤ 6 * (3999 * 3999) := fun k b hk hb => Nat.mul_le_mul hk (sq b hb)
  have one : ∀ k l b, k ≤ 6 → l ≤ 6 → b ≤ 3999 → k * l * b ≤ 6 * 6 * 3999 := fun k l b hk hl hb => Nat.mul_le_mul (Nat.mul_le_mul hk hl) hb
  have zero : ∀ k l n, k ≤ 6 → l ≤ 6 → n ≤ 6 → k * l * n ≤ 6 * 6 * 6 := fun k l n hk hl hn => Nat.mul_le_mul (Nat.mul_le_mul hk hl) hn
  rcases h1 with h1 | ⟨k1, b1, h1⟩ <;> rcases h2 with h2 | ⟨k2, b2, h2⟩ <;> rcases h3 with h3 | ⟨k3, b3, h3⟩
  · exact .inr (.inl fun b hb => by show ((min (a1 b * a2 b * a3 b) _ : Nat) : Int) = _; rw [h1, h2, h3])
  · refine .inr (.inr ⟨k3, b3, fun b hb => ?_⟩)
    show ((min (a1 b * a2 b * a3 b) _ : Nat) : Int) = _
    have := two k3 b b3 hb
    rw [h1, h2, h3, Nat.mul_comm (b * b), Nat.min_eq_left (by omega)]
  · refine .inr (.inr ⟨k2, b2, fun b hb => ?_⟩)
    show ((min (a1 b * a2 b * a3 b) _ : Nat) : Int) = _
    have := two k2 b b2 hb
    rw [h1, h2, h3, Nat.mul_comm b k2, Nat.mul_assoc, Nat.min_eq_left (by omega)]
  · refine .inl fun b hb => ?_
    show ((min (a1 b * a2 b * a3 b) _ : Nat) : Int) ≤ _
    have := one k2 k3 b b2 b3 hb
    rw [h1, h2, h3, show b * k2 * k3 = k2 * k3 * b by rw [Nat.mul_assoc, Nat.mul_comm]]
    omega
  · refine .inr (.inr ⟨k1, b1, fun b hb => ?_⟩)
    show ((min (a1 b * a2 b * a3 b) _ : Nat) : Int) = _
    have := two k1 b b1 hb
    rw [h1, h2, h3, Nat.mul_assoc, Nat.min_eq_left (by omega)]
  · refine .inl fun b hb => ?_
    show ((min (a1 b * a2 b * a3 b) _ : Nat) : Int) ≤ _
    have := one k1 k3 b b1 b3 hb
    rw [h1, h2, h3, show k1 * b * k3 = k1 * k3 * b by rw [Nat.mul_assoc, Nat.mul_comm b, ← Nat.mul_assoc]]
    omega
  · refine .inl fun b hb => ?_
    show ((min (a1 b * a2 b * a3 b) _ : Nat) : Int) ≤ _
    have := one k1 k2 b b1 b2 hb
    rw [h1, h2, h3]
    omega
  · refine .inl fun b hb => ?_
    show ((min (a1 b * a2 b * a3 b) _ : Nat) : Int) ≤ _
    have := zero k1 k2 k3 b1 b2 b3
    rw [h1, h2, h3]
    omega
theorem leaf_f {i : Nat} (h : Leaf τ i) : ∃ a : Nat → Nat, (∀ cm b, singL τ cm (lN b) (lN 0) i = lN (a b)) ∧ ((∀ b, a b = b) ∨ ∃ k, k ≤ 6 ∧ ∀ b, a b = k) ∧ ∀ b, b ≤ 3999 → a b ≤ 3999 := by
  rcases h with h | ⟨k, hk, h⟩
  · exact ⟨fun b => b, h, .inl fun _ => rfl, fun _ hb => hb⟩
  · exact ⟨fun _ => k, h, .inr ⟨k, hk, fun _ => rfl⟩, fun _ _ => by show k ≤ 3999; omega⟩
/-- a formula of five words that needs no element: it comes to the same whatever elements come to, and is of one of three kinds -/
theorem five_cl (hw : WF τ) (hm : MO τ) {x : Nat} (hx : x < un τ 26 26) (h5 : un τ 24 x = 5) (hn : ∀ j, j < 5 → un τ 22 (10 * x + j) = 2 → un τ 26 26 ≤ un τ 23 (10 * x + j)) : (∀ cm b, b ≤ 3999 → formL τ cm (lN b) (lN 0) x = formL τ (fun _ => lN 0) (lN b) (lN 0) x) ∧ Cl (FX τ x) := by
  have h6 := hw.ne.2
  have lf : ∀ j, j < 5 → un τ 22 (10 * x + j) < 4 → Leaf τ (10 * x + j) := fun j hj h4 => leaf_of hm (by omega) (by omega) h4 (hn j hj)
  rcases form5x (hw.fm x hx) h5 with ⟨w0, w1, w3, hf⟩ | ⟨w0, w1, w2, hf⟩
  · obtain ⟨a0, e0, k0, l0⟩ := leaf_f (lf 0 (by decide) w0)
    obtain ⟨a1, e1, k1, l1⟩ := leaf_f (lf 1 (by decide) w1)
    obtain ⟨a3, e3, k3, l3⟩ := leaf_f (lf 3 (by decide) w3)
    have hv : ∀ cm b, formL τ cm (lN b) (lN 0) x = keptL (joinL (un τ 22 (10 * x + 4)) (keptL (joinL (un τ 22 (10 * x + 2)) (keptL (lN (a0 b))) (keptL (lN (a1 b))))) (keptL (lN (a3 b)))) := fun cm b => by rw [hf, e0, e1, e3]
    refine ⟨fun cm b hb => by rw [hv, hv], ?_⟩
    by_cases z : un τ 22 (10 * x + 2) = 6 ∧ un τ 22 (10 * x + 4) = 6
    · have t := three a0 a1 a3 k0 k1 k3
      have e : ∀ b, b ≤ 3999 → FX τ x b = ((min (a0 b * a1 b * a3 b) 100000000 : Nat) : Int) := fun b hb => by
        unfold FX
        rw [hv]
        rcases two_j (w := un τ 22 (10 * x + 2)) (v := un τ 22 (10 * x + 4)) (l0 b hb) (l1 b hb) (l3 b hb) with ⟨_, q, _⟩ | ⟨q, _⟩
        · rw [q, pk_lT (by omega)]
        · exact absurd z q
      rcases t with t | t | ⟨k, hk, t⟩
      · exact .inl fun b hb => by rw [e b hb]; exact t b hb
      · exact .inr (.inl fun b hb => by rw [e b hb]; exact t b hb)
      · exact .inr (.inr ⟨k, hk, fun b hb => by rw [e b hb]; exact t b hb⟩)
    · refine .inl fun b hb => ?_
      unfold FX
      rw [hv]
      rcases two_j (w := un τ 22 (10 * x + 2)) (v := un τ 22 (10 * x + 4)) (l0 b hb) (l1 b hb) (l3 b hb) with ⟨q, _⟩ | ⟨_, q, _⟩
      · exact absurd q z
      · exact q
  · obtain ⟨a0, e0, k0, l0⟩ := leaf_f (lf 0 (by decide) w0)
    obtain ⟨a1, e1, k1, l1⟩ := leaf_f (lf 1 (by decide) w1)
    obtain ⟨a2, e2, k2, l2⟩ := leaf_f (lf 2 (by decide) w2)
    have hv : ∀ cm b, formL τ cm (lN b) (lN 0) x = keptL (joinL (un τ 22 (10 * x + 4)) (keptL (lN (a0 b))) (keptL (joinL (un τ 22 (10 * x + 3)) (keptL (lN (a1 b))) (keptL (lN (a2 b)))))) := fun cm b => by rw [hf, e0, e1, e2]
    refine ⟨fun cm b hb => by rw [hv, hv], ?_⟩
    by_cases z : un τ 22 (10 * x + 3) = 6 ∧ un τ 22 (10 * x + 4) = 6
    · have t := three a1 a2 a0 k1 k2 k0
      have e : ∀ b, b ≤ 3999 → FX τ x b = ((min (a1 b * a2 b * a0 b) 100000000 : Nat) : Int) := fun b hb => by
        unfold FX
        rw [hv]
        rcases two_j (w := un τ 22 (10 * x + 3)) (v := un τ 22 (10 * x + 4)) (l1 b hb) (l2 b hb) (l0 b hb) with ⟨_, _, q⟩ | ⟨q, _⟩
        · rw [q, pk_lT (by omega)]
        · exact absurd z q
      rcases t with t | t | ⟨k, hk, t⟩
      · exact .inl fun b hb => by rw [e b hb]; exact t b hb
      · exact .inr (.inl fun b hb => by rw [e b hb]; exact t b hb)
      · exact .inr (.inr ⟨k, hk, fun b hb => by rw [e b hb]; exact t b hb⟩)
    · refine .inl fun b hb => ?_
      unfold FX
      rw [hv]
      rcases two_j (w := un τ 22 (10 * x + 3)) (v := un τ 22 (10 * x + 4)) (l1 b hb) (l2 b hb) (l0 b hb) with ⟨q, _⟩ | ⟨_, _, q⟩
      · exact absurd q z
      · exact q
end Five
