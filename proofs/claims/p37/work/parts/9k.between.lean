/-! BOUNDS by the number of calls -/
/-- bounds that the number of calls keeps -/
def LK (n : Nat) (τ : Mu) : Prop := (∀ x, 720 * un τ 9 9 ≤ x → x < 7200 → τ.1 6 x = -1) ∧ un τ 51 51 ≤ 6 * un τ 46 46 ∧ BO τ ∧ ∀ i, i < 144 → 0 ≤ (τ.2 45 i).toInt ∧ (τ.2 45 i).toInt ≤ 100000000 * (n : Int)
theorem LK.ad {n : Nat} {τ : Mu} (h : LK n τ) (hn : n ≤ 600) : ∀ p, p < 6 → AD τ p := fun p hp k hk => by
  obtain ⟨a, b⟩ := h.2.2.2 (24 * p + k) (by omega)
  exact ⟨a, by omega⟩
theorem LK.up {n : Nat} {τ : Mu} (h : LK n τ) : LK (n + 1) τ := ⟨h.1, h.2.1, h.2.2.1, fun i hi => ⟨(h.2.2.2 i hi).1, by have := (h.2.2.2 i hi).2; omega⟩⟩
theorem LK.cg {n : Nat} {τ U : Mu} (h : LK n τ) (e6 : U.1 6 = τ.1 6) (e9 : U.1 9 = τ.1 9) (e30 : U.1 30 = τ.1 30) (e46 : U.1 46 = τ.1 46) (e51 : U.1 51 = τ.1 51) (e45 : U.2 45 = τ.2 45) : LK n U := by
  unfold LK BO un at h ⊢
  rw [e6, e9, e30, e46, e51, e45]
  exact h
theorem LK.n6 {n : Nat} {τ : Mu} (h : LK n τ) (h9 : un τ 9 9 < 10) : ∀ d, d < 720 → τ.1 6 (720 * un τ 9 9 + d) = -1 := fun d hd => h.1 _ (by omega) (by omega)
theorem lk0 : LK 0 τ0 := by
  refine ⟨fun x _ hx => if_pos (.inl ⟨rfl, hx⟩), by rw [u0 (by decide)]; exact Nat.zero_le _, bo0, fun i _ => ?_⟩
  rw [show τ0.2 45 i = 0 from rfl]
  exact ⟨by decide, by decide⟩

