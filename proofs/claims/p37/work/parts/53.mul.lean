/-! A NEW ARRAY OF ARRAYS: rows behind it, one behind the other -/
def wMul (M : Mem) (q κo κi n k : Nat) : Mem := (fun a => if a = q then κo else if q < a ∧ a ≤ q + n then κi else M.1 a, fun a => if a = q then n else if q < a ∧ a ≤ q + n then k else if a = q + n + 1 then 1 else M.2.1 a, fun a => if q ≤ a ∧ a ≤ q + n then (fun _ => 0) else M.2.2.1 a, fun a => if q ≤ a ∧ a ≤ q + n then (fun _ => 0) else M.2.2.2.1 a, fun a => if a = q then (fun i => if i < n then some (q + 1 + i) else none) else if q < a ∧ a ≤ q + n then (fun _ => none) else M.2.2.2.2 a)
theorem gRel.mul {G : gW} {M : Mem} {H H1 : Heap} {q n k j : Nat} (h : gRel G M H) (hj : j < 2) (hq : H.size = q) (hb : gB G ≤ q) (hz : H1.size = q + 1 + n) (oq : ∀ b, b < q → H1[b]? = H[b]?)
    (ho : H1[q]? = some (arrV (gT G (7 + j)) n (fun i => va_rf (if i < n then some (q + 1 + i) else none)))) (hi : ∀ i, i < n → H1[q + 1 + i]? = some (arrV (gT G j) k (fun _ => if j = 0 then .int 0 else .long 0))) : gRel G (wMul M q (27 + j) (20 + j) n k) H1 := by
  intro b
  by_cases e : b = q
  · subst e
    have k1 : mK (wMul M b (27 + j) (20 + j) n k) b = 27 + j := if_pos rfl
    have k2 : mN (wMul M b (27 + j) (20 + j) n k) b = n := if_pos rfl
    have k5 : mR (wMul M b (27 + j) (20 + j) n k) b = fun i => if i < n then some (b + 1 + i) else none := if_pos rfl
    rw [k1, k2, k5]
    refine ⟨fun _ => ⟨hb, by omega⟩, fun ci r hc hk => ?_, fun z => by omega, fun z => by omega, fun z => by omega, fun i hi2 z => ?_, fun z => by omega⟩
    · have : ci < 14 := (List.getElem?_eq_some_iff.mp hc).1
      omega
    · have e4 : i = 4 + j := by omega
      subst e4
      rw [show 3 + (4 + j) = 7 + j by omega]; exact ho
  · by_cases e2 : q < b ∧ b ≤ q + n
    · have k1 : mK (wMul M q (27 + j) (20 + j) n k) b = 20 + j := (if_neg e).trans (if_pos e2)
      have k2 : mN (wMul M q (27 + j) (20 + j) n k) b = k := (if_neg e).trans (if_pos e2)
      have k3 : mI (wMul M q (27 + j) (20 + j) n k) b = fun _ => 0 := if_pos ⟨by omega, e2.2⟩
      have k4 : mL (wMul M q (27 + j) (20 + j) n k) b = fun _ => 0 := if_pos ⟨by omega, e2.2⟩
      have hr := hi (b - (q + 1)) (by omega)
      rw [show q + 1 + (b - (q + 1)) = b by omega] at hr
      rw [k1, k2, k3, k4]
      refine ⟨fun _ => ⟨by omega, by omega⟩, fun ci r hc hk => ?_, fun z => ?_, fun z => ?_, fun z => by omega, fun i hi2 z => by omega, fun z => by omega⟩
      · have : ci < 14 := (List.getElem?_eq_some_iff.mp hc).1
        omega
      · have e0 : j = 0 := by omega
        subst e0; exact hr
      · have e0 : j = 1 := by omega
        subst e0; exact hr
    · have k1 : mK (wMul M q (27 + j) (20 + j) n k) b = mK M b := (if_neg e).trans (if_neg e2)
      have k3 : mI (wMul M q (27 + j) (20 + j) n k) b = mI M b := if_neg (fun z => e2 ⟨by omega, z.2⟩)
      have k4 : mL (wMul M q (27 + j) (20 + j) n k) b = mL M b := if_neg (fun z => e2 ⟨by omega, z.2⟩)
      have k5 : mR (wMul M q (27 + j) (20 + j) n k) b = mR M b := (if_neg e).trans (if_neg e2)
      obtain ⟨q1, q2, q3, q4, q5, q6, q7⟩ := h b
      have hs : mK M b ≠ 0 → H1[b]? = H[b]? ∧ mN (wMul M q (27 + j) (20 + j) n k) b = mN M b := fun z => by
        have := (q1 z).2
        exact ⟨oq b (by omega), (if_neg e).trans ((if_neg e2).trans (if_neg (by omega)))⟩
      rw [k1, k3, k4, k5]
      refine ⟨fun z => ⟨(q1 z).1, by have := (q1 z).2; omega⟩, fun ci r hc hk => ?_, fun z => ?_, fun z => ?_, fun z => ?_, fun i hi2 z => ?_, fun z1 z2 => ?_⟩
      · rw [mV_congr k3 k4 k5]
        exact (q2 ci r hc hk).kept (hs (by rw [hk]; exact Nat.succ_ne_zero ci)).1
      · obtain ⟨a1, a2⟩ := hs (by rw [z]; decide); rw [a1, a2]; exact q3 z
      · obtain ⟨a1, a2⟩ := hs (by rw [z]; decide); rw [a1, a2]; exact q4 z
      · obtain ⟨a1, a2⟩ := hs (by rw [z]; decide); rw [a1, a2]; exact q5 z
      · obtain ⟨a1, a2⟩ := hs (by rw [z]; omega); rw [a1, a2]; exact q6 i hi2 z
      · by_cases e1 : b = q + n + 1
        · rw [hz, e1]; omega
        · have k2 : mN (wMul M q (27 + j) (20 + j) n k) b = mN M b := (if_neg e).trans ((if_neg e2).trans (if_neg e1))
          rw [k2] at z2
          have := q7 z1 z2
          omega


