/-! WHAT EACH CALL CHANGES -/
theorem sI_n {τ : Mu} {k x y : Nat} {v : Int32} (h : y ≠ x) : (sI τ k x v).1 k y = τ.1 k y := up2_k _ _ h
section Contract
variable {τ : Mu} {x y z t n u : Int32} {b : Bool}
def coS (τ : Mu) (x y z t : Int32) (b : Bool) (n u : Int32) : Mu := sI (sI (sI (sI (sI (sI (sI τ 0 (un τ 9 9) x) 1 (un τ 9 9) y) 2 (un τ 9 9) z) 3 (un τ 9 9) t) 4 (un τ 9 9) (bI b)) 5 (un τ 9 9) n) 6 (720 * un τ 9 9 + z.toNatClampNeg) u
def coT (τ : Mu) (x y z t : Int32) (b : Bool) (n u : Int32) : Mu := sI (spS (coS τ x y z t b n u) (un τ 9 9) 720) 9 9 (nI (un τ 9 9 + 1))
theorem coT_o {k : Nat} (h : k = 8 ∨ 10 ≤ k) : (coT τ x y z t b n u).1 k = τ.1 k := by
  have e1 : (coT τ x y z t b n u).1 k = (spS (coS τ x y z t b n u) (un τ 9 9) 720).1 k := sI_r (by omega)
  have e2 : (spS (coS τ x y z t b n u) (un τ 9 9) 720).1 k = (coS τ x y z t b n u).1 k := funext fun i => spS_o _ _ _ _ _ (by omega)
  rw [e1, e2]
  unfold coS
  rw [sI_r (by omega), sI_r (by omega), sI_r (by omega), sI_r (by omega), sI_r (by omega), sI_r (by omega), sI_r (by omega)]
theorem coT_k {k : Nat} (h : k < 7) : (coT τ x y z t b n u).1 k = (coS τ x y z t b n u).1 k := by
  have e1 : (coT τ x y z t b n u).1 k = (spS (coS τ x y z t b n u) (un τ 9 9) 720).1 k := sI_r (by omega)
  rw [e1]
  exact funext fun i => spS_o _ _ _ _ _ (by omega)
theorem coT_9 (h : un τ 9 9 < 10) : un (coT τ x y z t b n u) 9 9 = un τ 9 9 + 1 := un_of (sI_s) (by omega)
theorem coT_old {k c : Nat} (h : k < 6) (hc : c ≠ un τ 9 9) : (coT τ x y z t b n u).1 k c = τ.1 k c := by
  rw [coT_k (by omega)]
  unfold coS
  rw [sI_r (by omega)]
  rcases (show k = 0 ∨ k = 1 ∨ k = 2 ∨ k = 3 ∨ k = 4 ∨ k = 5 by omega) with rfl | rfl | rfl | rfl | rfl | rfl
  · rw [sI_r (by decide), sI_r (by decide), sI_r (by decide), sI_r (by decide), sI_r (by decide), sI_k hc]
  · rw [sI_r (by decide), sI_r (by decide), sI_r (by decide), sI_r (by decide), sI_k hc, sI_r (by decide)]
  · rw [sI_r (by decide), sI_r (by decide), sI_r (by decide), sI_k hc, sI_r (by decide), sI_r (by decide)]
  · rw [sI_r (by decide), sI_r (by decide), sI_k hc, sI_r (by decide), sI_r (by decide), sI_r (by decide)]
  · rw [sI_r (by decide), sI_k hc, sI_r (by decide), sI_r (by decide), sI_r (by decide), sI_r (by decide)]
  · rw [sI_k hc, sI_r (by decide), sI_r (by decide), sI_r (by decide), sI_r (by decide), sI_r (by decide)]
theorem coT_n0 : (coT τ x y z t b n u).1 0 (un τ 9 9) = x := by
  rw [coT_k (by decide)]
  unfold coS
  rw [sI_r (by decide), sI_r (by decide), sI_r (by decide), sI_r (by decide), sI_r (by decide), sI_r (by decide), sI_s]
theorem coT_n2 : (coT τ x y z t b n u).1 2 (un τ 9 9) = z := by
  rw [coT_k (by decide)]
  unfold coS
  rw [sI_r (by decide), sI_r (by decide), sI_r (by decide), sI_r (by decide), sI_s]
theorem coT_n3 : (coT τ x y z t b n u).1 3 (un τ 9 9) = t := by
  rw [coT_k (by decide)]
  unfold coS
  rw [sI_r (by decide), sI_r (by decide), sI_r (by decide), sI_s]
theorem coT_n4 : (coT τ x y z t b n u).1 4 (un τ 9 9) = bI b := by
  rw [coT_k (by decide)]
  unfold coS
  rw [sI_r (by decide), sI_r (by decide), sI_s]
theorem coT_7 {i : Nat} (h : i < 720 * un τ 9 9 ∨ 720 * un τ 9 9 + 720 ≤ i) : (coT τ x y z t b n u).1 7 i = τ.1 7 i := by
  have e1 : (coT τ x y z t b n u).1 7 = (spS (coS τ x y z t b n u) (un τ 9 9) 720).1 7 := sI_r (by decide)
  have e2 : (spS (coS τ x y z t b n u) (un τ 9 9) 720).1 7 i = (coS τ x y z t b n u).1 7 i := if_neg fun q => by omega
  rw [e1, e2]
  unfold coS
  rw [sI_r (by decide), sI_r (by decide), sI_r (by decide), sI_r (by decide), sI_r (by decide), sI_r (by decide), sI_r (by decide)]
theorem sp_v {S : Mu} {c f v : Nat} (h1 : ∀ d, d < 720 → d ≠ f → S.1 6 (720 * c + d) = -1) (h2 : S.1 6 (720 * c + f) = nI v) (hv : v < 2 ^ 31) : ∀ k, k ≤ 720 → spreadV S c k = if f < k then nI v else 0
  | 0, _ => by rw [if_neg (Nat.not_lt_zero _)]; rfl
  | k + 1, hk => by
    have ih := sp_v h1 h2 hv k (by omega)
    show (if 0 ≤ S.1 6 (720 * c + k) then S.1 6 (720 * c + k) else spreadV S c k) = _
    by_cases z : k = f
    · rw [z, h2, if_pos (by rw [Int32.le_iff_toInt_le, nI_toInt hv]; show (0 : Int) ≤ _; omega), if_pos (by omega)]
    · rw [h1 k (by omega) z, if_neg (by decide), ih]
      by_cases q : f < k
      · rw [if_pos q, if_pos (by omega)]
      · rw [if_neg q, if_neg (by omega)]
/-- a new contract's pays -/
theorem coT_pay {f v : Nat} (hf : f < 720) (hv : v < 2 ^ 31) (h6 : ∀ d, d < 720 → τ.1 6 (720 * un τ 9 9 + d) = -1) {d : Nat} (hd : d < 720) : un (coT τ x y (nI f) t b n (nI v)) 7 (720 * un τ 9 9 + d) = if f ≤ d then v else 0 := by
  have e1 : (coT τ x y (nI f) t b n (nI v)).1 7 = (spS (coS τ x y (nI f) t b n (nI v)) (un τ 9 9) 720).1 7 := sI_r (by decide)
  have e2 : (spS (coS τ x y (nI f) t b n (nI v)) (un τ 9 9) 720).1 7 (720 * un τ 9 9 + d) = spreadV (coS τ x y (nI f) t b n (nI v)) (un τ 9 9) (720 * un τ 9 9 + d - 720 * un τ 9 9 + 1) := if_pos ⟨rfl, by omega, by omega⟩
  have e3 : ∀ i, (coS τ x y (nI f) t b n (nI v)).1 6 i = if i = 720 * un τ 9 9 + f then nI v else τ.1 6 i := fun i => by
    unfold coS
    rw [nI_clamp (n := f) (by omega)]
    by_cases z : i = 720 * un τ 9 9 + f
    · rw [if_pos z, z, sI_s]
    · rw [if_neg z, sI_k z, sI_r (by decide), sI_r (by decide), sI_r (by decide), sI_r (by decide), sI_r (by decide), sI_r (by decide)]
  have s := sp_v (S := coS τ x y (nI f) t b n (nI v)) (c := un τ 9 9) (f := f) (v := v) (fun d hd hne => by rw [e3, if_neg (by omega)]; exact h6 d hd) (by rw [e3, if_pos rfl]) hv (d + 1) (by omega)
  unfold un
  rw [e1]
  show ((spS (coS τ x y (nI f) t b n (nI v)) (un τ 9 9) 720).1 7 (720 * un τ 9 9 + d)).toNatClampNeg = _
  rw [e2, show 720 * un τ 9 9 + d - 720 * un τ 9 9 + 1 = d + 1 by omega, s]
  by_cases q : f ≤ d
  · rw [if_pos (by omega), if_pos q, nI_clamp hv]
  · rw [if_neg (by omega), if_neg q]; rfl
end Contract
section Shift
variable {τ : Mu} {c d m n : Nat}
theorem shU_o {k : Nat} (h : k < 8 ∨ k = 9 ∨ 14 ≤ k) : (shU τ c d m n).1 k = τ.1 k := by
  unfold shU
  split
  · rw [sI_r (by omega), sI_r (by omega), sI_r (by omega), sI_r (by omega), sI_r (by omega), sI_r (by omega)]
  · rw [sI_r (by omega), sI_r (by omega), sI_r (by omega), sI_r (by omega), sI_r (by omega)]
theorem shU_2 : (shU τ c d m n).2 = τ.2 := by unfold shU; split <;> rfl
theorem shU_13 (h : un τ 13 13 < 40) : un (shU τ c d m n) 13 13 = un τ 13 13 + 1 := by
  unfold shU
  split
  · exact un_of (by rw [sI_r (by decide), sI_r (by decide), sI_s]) (by omega)
  · exact un_of (by rw [sI_r (by decide), sI_s]) (by omega)
theorem shU_11o {i : Nat} (h : i ≠ un τ 13 13) : (shU τ c d m n).1 11 i = τ.1 11 i := by
  unfold shU
  split
  · rw [sI_r (by decide), sI_r (by decide), sI_r (by decide), sI_r (by decide), sI_k h, sI_r (by decide)]
  · rw [sI_r (by decide), sI_r (by decide), sI_r (by decide), sI_k h, sI_r (by decide)]
theorem shU_11n (h : 1440 * d + m < 2 ^ 31) : un (shU τ c d m n) 11 (un τ 13 13) = 1440 * d + m := by
  unfold shU
  split
  · exact un_of (by rw [sI_r (by decide), sI_r (by decide), sI_r (by decide), sI_r (by decide), sI_s]) h
  · exact un_of (by rw [sI_r (by decide), sI_r (by decide), sI_r (by decide), sI_s]) h
theorem shU_8 {i : Nat} (h1 : i ≠ 720 * c + d) (h2 : d < 719 → i ≠ 720 * c + d + 1) : (shU τ c d m n).1 8 i = τ.1 8 i := by
  unfold shU
  split
  · rename_i q
    rw [sI_k (h2 q), sI_k h1, sI_r (by decide), sI_r (by decide), sI_r (by decide), sI_r (by decide)]
  · rw [sI_k h1, sI_r (by decide), sI_r (by decide), sI_r (by decide), sI_r (by decide)]
end Shift
section Words
variable {τ : Mu}
def woU (τ : Mu) (x y : Int32) : Mu := sI (sI (sI τ 22 (60 + un τ 24 6) x) 23 (60 + un τ 24 6) y) 24 6 (nI (un τ 24 6 + 1))
theorem woU_o {x y : Int32} {k : Nat} (h : k ≠ 22 ∧ k ≠ 23 ∧ k ≠ 24) : (woU τ x y).1 k = τ.1 k := by
  unfold woU
  rw [sI_r h.2.2, sI_r h.2.1, sI_r h.1]
theorem woU_24 {x y : Int32} {e : Nat} (h : e ≠ 6) : (woU τ x y).1 24 e = τ.1 24 e := by
  unfold woU
  rw [sI_k h, sI_r (by decide), sI_r (by decide)]
theorem woU_6 {x y : Int32} (h : un τ 24 6 < 10) : un (woU τ x y) 24 6 = un τ 24 6 + 1 := un_of sI_s (by omega)
theorem woU_22 {x y : Int32} {i : Nat} (h : i ≠ 60 + un τ 24 6) : (woU τ x y).1 22 i = τ.1 22 i := by
  unfold woU
  rw [sI_r (by decide), sI_r (by decide), sI_k h]
theorem woU_23 {x y : Int32} {i : Nat} (h : i ≠ 60 + un τ 24 6) : (woU τ x y).1 23 i = τ.1 23 i := by
  unfold woU
  rw [sI_r (by decide), sI_k h, sI_r (by decide)]
theorem woU_22n {x y : Int32} : (woU τ x y).1 22 (60 + un τ 24 6) = x := by
  unfold woU
  rw [sI_r (by decide), sI_r (by decide), sI_s]
theorem woU_23n {x y : Int32} : (woU τ x y).1 23 (60 + un τ 24 6) = y := by
  unfold woU
  rw [sI_r (by decide), sI_s]
theorem enU_o {c d k : Nat} (h : k < 22 ∨ 28 ≤ k) : (elU τ c d).1 k = τ.1 k := by
  unfold elU
  have e1 : (arU (elS τ c d) (un τ 26 26 + (if c = un τ 26 26 then 1 else 0))).1 k = (elS τ c d).1 k := funext fun i => if_neg fun q => by omega
  rw [e1]
  unfold elS
  rw [sI_r (by omega), sI_r (by omega), sI_r (by omega), sI_r (by omega)]
  exact funext fun i => if_neg fun q => by omega
theorem enU_2 {c d : Nat} : (elU τ c d).2 = τ.2 := rfl
theorem enU_k {c d k : Nat} (h : k ≠ 27) : (elU τ c d).1 k = (elS τ c d).1 k := funext fun i => if_neg fun q => h q.1
theorem enU_25 {c d e : Nat} (h : e ≠ c) : (elU τ c d).1 25 e = τ.1 25 e := by
  rw [enU_k (by decide)]
  unfold elS
  rw [sI_r (by decide), sI_k h, sI_r (by decide), sI_r (by decide)]
  show (if (25 = 22 ∨ 25 = 23) ∧ 10 * c ≤ e ∧ e < 10 * c + 10 then τ.1 25 (60 + (e - 10 * c)) else τ.1 25 e) = τ.1 25 e
  rw [if_neg (by omega)]
end Words
