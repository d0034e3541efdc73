/-! THE REFERENCE: its beginning is well formed -/
theorem z0 {k i : Nat} (h : k ≠ 6 ∧ k ≠ 31 ∧ k ≠ 36 ∧ k ≠ 37) : τ0.1 k i = nI 0 := if_neg (fun q => by omega)
theorem u0 {k i : Nat} (h : k ≠ 6 ∧ k ≠ 31 ∧ k ≠ 36 ∧ k ≠ 37) : un τ0 k i = 0 := un_of (z0 h) (by decide)
theorem ok0 {k i b : Nat} (h : k ≠ 6 ∧ k ≠ 31 ∧ k ≠ 36 ∧ k ≠ 37) (hb : b < 2 ^ 31) : okN τ0 k i b := okN_of (z0 h) (Nat.zero_le _) hb
theorem no0 {k i c : Nat} {P : Prop} (h : k ≠ 6 ∧ k ≠ 31 ∧ k ≠ 36 ∧ k ≠ 37) (hc : c < un τ0 k i) : P := by rw [u0 h] at hc; exact absurd hc (Nat.not_lt_zero _)
theorem sp0 {c : Nat} (hc : c < 10) : ∀ d, d ≤ 720 → spreadV τ0 c d = 0
  | 0, _ => rfl
  | d + 1, hd => by
    show (if 0 ≤ τ0.1 6 (720 * c + d) then τ0.1 6 (720 * c + d) else spreadV τ0 c d) = 0
    have e : τ0.1 6 (720 * c + d) = -1 := if_pos (.inl ⟨rfl, by omega⟩)
    rw [e, if_neg (by decide)]
    exact sp0 hc d (by omega)
theorem wf0 : WF τ0 := ⟨(ok0 (by decide) (by decide)),
  (fun _ h => no0 (by decide) h),
  (fun _ h => no0 (by decide) h),
  (fun _ h => no0 (by decide) h),
  (fun _ h => no0 (by decide) h),
  (fun _ h => no0 (by decide) h),
  (fun _ h => no0 (by decide) h),
  (fun _ h => no0 (by decide) h),
  (fun _ h => no0 (by decide) h),
  (fun i _ => ok0 (by decide) (by decide)),
  (fun i hi => .inl (if_pos (.inl ⟨rfl, hi⟩))),
  (fun c d hc hd => by rw [sp0 hc (d + 1) (by omega)]; exact z0 (by decide)),
  (fun i _ => okN_of (z0 (by decide)) (Nat.zero_le _) (by rw [u0 (by decide)]; decide)),
  (fun _ _ h => no0 (by decide) h),
  (fun i _ _ => u0 (by decide)),
  (ok0 (by decide) (by decide)),
  (fun _ h => no0 (by decide) h),
  (fun _ h => no0 (by decide) h),
  (fun _ h => no0 (by decide) h),
  (ok0 (by decide) (by decide)),
  (fun _ h => no0 (by decide) h),
  (fun _ h => no0 (by decide) h),
  (ok0 (by decide) (by decide)),
  (ok0 (by decide) (by decide)),
  (ok0 (by decide) (by decide)),
  (ok0 (by decide) (by decide)),
  (fun e _ => ok0 (by decide) (by decide)),
  (fun e k _ h => no0 (by decide) h),
  (fun e k _ h _ => no0 (by decide) h),
  (fun _ h => no0 (by decide) h),
  (fun _ h => no0 (by decide) h),
  (by rw [u0 (by decide)]; exact fun k hk => absurd hk (Nat.not_lt_zero _)),
  (fun _ h => no0 (by decide) h),
  (fun _ h => no0 (by decide) h),
  (⟨fun _ => 0, fun e f h _ _ => no0 (by decide) h⟩),
  (fun i hi => .inl (if_pos (.inr (.inl ⟨rfl, hi⟩)))),
  (fun i _ => ok0 (by decide) (by decide)),
  (fun i _ => ok0 (by decide) (by decide)),
  (fun i b _ h => no0 (by decide) h),
  (fun i b _ h => no0 (by decide) h),
  (fun i hi => .inl (if_pos (.inr (.inr ⟨.inl rfl, hi⟩)))),
  (fun i hi => .inl (if_pos (.inr (.inr ⟨.inr rfl, hi⟩)))),
  (fun i _ => by rw [z0 (by decide)]; exact ⟨by decide, by decide⟩),
  (ok0 (by decide) (by decide)),
  (fun _ h => no0 (by decide) h),
  (fun _ h => no0 (by decide) h),
  (fun _ h => no0 (by decide) h),
  (fun _ h => no0 (by decide) h),
  (fun _ h => no0 (by decide) h),
  (fun _ h => no0 (by decide) h),
  (ok0 (by decide) (by decide)),
  (ok0 (by decide) (by decide)),
  (fun _ h => no0 (by decide) h),
  (fun _ h => no0 (by decide) h),
  (fun _ h => no0 (by decide) h)⟩
theorem bo0 : BO τ0 := fun i _ => by rw [z0 (by decide)]; exact ⟨by decide, by decide⟩
