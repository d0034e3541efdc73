/-! THE REFERENCE: what was told stays as bounded, the rest -/
theorem arS_cg {τ τ' : Mu} (h22 : ∀ x, τ'.1 22 x = τ.1 22 x) (h23 : ∀ x, τ'.1 23 x = τ.1 23 x) (h24 : ∀ x, τ'.1 24 x = τ.1 24 x) (h26 : τ'.1 26 26 = τ.1 26 26) (D : Nat) : arrS τ' D = arrS τ D := by
  unfold arrS
  rw [un_cg h26, fstN_cg (f := fitB τ' D) (g := fitB τ D) (fun k _ => by unfold fitB; rw [un_cg h26, needN_cg h22 h23 h24])]
theorem arD_cg {τ τ' : Mu} (h22 : ∀ x, τ'.1 22 x = τ.1 22 x) (h23 : ∀ x, τ'.1 23 x = τ.1 23 x) (h24 : ∀ x, τ'.1 24 x = τ.1 24 x) (h26 : τ'.1 26 26 = τ.1 26 26) : ∀ k, arrD τ' k = arrD τ k
  | 0 => rfl
  | k + 1 => by
    show arrD τ' k ||| 2 ^ arrS τ' (arrD τ' k) = arrD τ k ||| 2 ^ arrS τ (arrD τ k)
    rw [arD_cg h22 h23 h24 h26 k, arS_cg h22 h23 h24 h26]
theorem elS_fm {τ : Mu} (hw : WF τ) {c d : Nat} (hc : c ≤ un τ 26 26) (h6 : c < 6) (hd : fmD τ 6 (un τ 24 6) = 1) : ∀ e, e < un (elS τ c d) 26 26 → fmOK (elS τ c d) e (un (elS τ c d) 24 e) ∧ fmD (elS τ c d) e (un (elS τ c d) 24 e) = 1 := by
  intro e he
  have hl := elS_lt hw (d := d) hc h6
  by_cases z : e = c
  · subst z
    have h10 := (hw.el 6 (by omega)).2
    have hs : ∀ k, k ≤ un τ 24 6 → fmD (elS τ e d) e k = fmD τ 6 k := fun k hk => fmD_sh (fun j hj => elS_rowc (.inl rfl) (by omega))
    rw [elS_elc hw h6, hs _ (Nat.le_refl _)]
    refine ⟨fun k hk h4 => ?_, hd⟩
    rw [hs k (by omega)]
    refine hw.dr k hk ?_
    have e1 : un (elS τ e d) 22 (10 * e + k) = un τ 22 (10 * 6 + k) := by unfold un; rw [elS_rowc (.inl rfl) (by omega)]
    rw [← e1]; exact h4
  · have he2 := hl.2 e he z
    have h10 := (hw.el e (by omega)).2
    have hs : ∀ j, j < un τ 24 e → (elS τ c d).1 22 (10 * e + j) = τ.1 22 (10 * e + j) := fun j hj => elS_rowo (.inl rfl) (by omega) z
    rw [elS_elo z (by omega)]
    exact ⟨fmOK_cg hs (hw.fm e he2).1, (fmD_cg hs).trans (hw.fm e he2).2⟩
theorem wd_el {τ : Mu} (hw : WF τ) {a : Nat} {y : Int32} {L : Nat} (hL : L = un τ 24 6) (hl : L < 10) : elEq τ (sI (sI (sI τ 22 (60 + L) (nI a)) 23 (60 + L) y) 24 6 (nI (L + 1))) := by
  have hn := hw.ne.2
  refine ⟨fun e he => ⟨sI_k (τ := sI (sI τ 22 (60 + L) (nI a)) 23 (60 + L) y) (k := 24) (by omega), fun j hj => ⟨?_, ?_⟩⟩, rfl⟩
  · exact sI_k (τ := τ) (k := 22) (x := 60 + L) (v := nI a) (y := 10 * e + j) (by omega)
  · exact sI_k (τ := sI τ 22 (60 + L) (nI a)) (k := 23) (x := 60 + L) (v := y) (y := 10 * e + j) (by omega)

theorem wf_word {τ : Mu} (hw : WF τ) {a : Nat} {y : Int32} (hl : un τ 24 6 < 10) (ha : a ≤ 9) (hy : a = 2 → ∃ b, b ≤ 5 ∧ y = nI b) (hd : 4 ≤ a → 2 ≤ fmD τ 6 (un τ 24 6)) : WF (sI (sI (sI τ 22 (60 + un τ 24 6) (nI a)) 23 (60 + un τ 24 6) y) 24 6 (nI (un τ 24 6 + 1))) := by
  have r22 : ∀ i, i ≠ 60 + un τ 24 6 → (sI (sI (sI τ 22 (60 + un τ 24 6) (nI a)) 23 (60 + un τ 24 6) y) 24 6 (nI (un τ 24 6 + 1))).1 22 i = τ.1 22 i := fun i hi => sI_k (τ := τ) (k := 22) (x := 60 + un τ 24 6) (v := nI a) hi
  have r23 : ∀ i, i ≠ 60 + un τ 24 6 → (sI (sI (sI τ 22 (60 + un τ 24 6) (nI a)) 23 (60 + un τ 24 6) y) 24 6 (nI (un τ 24 6 + 1))).1 23 i = τ.1 23 i := fun i hi => sI_k (τ := sI τ 22 (60 + un τ 24 6) (nI a)) (k := 23) (x := 60 + un τ 24 6) (v := y) hi
  have s22 : (sI (sI (sI τ 22 (60 + un τ 24 6) (nI a)) 23 (60 + un τ 24 6) y) 24 6 (nI (un τ 24 6 + 1))).1 22 (60 + un τ 24 6) = nI a := sI_s (τ := τ) (k := 22) (x := 60 + un τ 24 6) (v := nI a)
  have s23 : (sI (sI (sI τ 22 (60 + un τ 24 6) (nI a)) 23 (60 + un τ 24 6) y) 24 6 (nI (un τ 24 6 + 1))).1 23 (60 + un τ 24 6) = y := sI_s (τ := sI τ 22 (60 + un τ 24 6) (nI a)) (k := 23) (x := 60 + un τ 24 6) (v := y)
  have e6 : un (sI (sI (sI τ 22 (60 + un τ 24 6) (nI a)) 23 (60 + un τ 24 6) y) 24 6 (nI (un τ 24 6 + 1))) 24 6 = un τ 24 6 + 1 := nI_clamp (by omega)
  have eo : ∀ e, e ≠ 6 → un (sI (sI (sI τ 22 (60 + un τ 24 6) (nI a)) 23 (60 + un τ 24 6) y) 24 6 (nI (un τ 24 6 + 1))) 24 e = un τ 24 e := fun e he => un_cg (sI_k (τ := sI (sI τ 22 (60 + un τ 24 6) (nI a)) 23 (60 + un τ 24 6) y) (k := 24) (x := 6) (v := nI (un τ 24 6 + 1)) he)
  exact ⟨(hw.nc),
    (hw.cw),
    (hw.cp),
    (hw.cf),
    (hw.ct),
    (hw.cft),
    (hw.ch),
    (hw.cn),
    (hw.cn0),
    (hw.py),
    (hw.tl),
    (fun c_ d_ h1_ h2_ => (hw.pyt c_ d_ h1_ h2_).trans (spreadV_cg (τ := τ) (τ' := (sI (sI (sI τ 22 (60 + un τ 24 6) (nI a)) 23 (60 + un τ 24 6) y) 24 6 (nI (un τ 24 6 + 1)))) (c := c_) (d := d_ + 1) (fun _ _ => rfl)).symm),
    (hw.mn),
    (hw.mn0),
    (hw.mn1),
    (hw.sh),
    (hw.sc),
    (hw.sb),
    (hw.sl),
    (hw.nl),
    (hw.lc),
    (hw.ld),
    (hw.rt),
    (hw.ca),
    (hw.te),
    (hw.ne),
    (fun e he => okN_set (τ := sI (sI τ 22 (60 + un τ 24 6) (nI a)) 23 (60 + un τ 24 6) y) (k := 24) (n := 6) (v := un τ 24 6 + 1) (by omega) (by decide) (hw.el e he)),
    (fun e k he hk => by
      by_cases z : e = 6
      · subst z; rw [e6] at hk
        by_cases q : k = un τ 24 6
        · subst q; exact okN_of s22 ha (by decide)
        · exact okN_cg (r22 _ (by omega)) (hw.ew 6 k (by omega) (by omega))
      · rw [eo e z] at hk
        have h10 := (hw.el e (by omega)).2
        exact okN_cg (r22 _ (by omega)) (hw.ew e k he hk)),
    (fun e k he hk h2 => by
      by_cases z : e = 6
      · subst z; rw [e6] at hk
        by_cases q : k = un τ 24 6
        · subst q; rw [un_of (i := 60 + un τ 24 6) s22 (by omega)] at h2; obtain ⟨b, hb, rfl⟩ := hy h2; exact okN_of s23 hb (by decide)
        · exact okN_cg (r23 _ (by omega)) (hw.en 6 k (by omega) (by omega) (by rw [← un_cg (r22 (10 * 6 + k) (by omega))]; exact h2))
      · rw [eo e z] at hk
        have h10 := (hw.el e (by omega)).2
        exact okN_cg (r23 _ (by omega)) (hw.en e k he hk (by rw [← un_cg (r22 (10 * e + k) (by omega))]; exact h2))),
    (hw.ep),
    ((wd_el hw (a := a) (y := y) rfl hl).fm hw),
    (by
      rw [e6]
      intro k hk h4
      rw [fmD_cg (τ := τ) (fun j hj => r22 _ (by omega))]
      by_cases q : k = un τ 24 6
      · subst q; exact hd (by rw [un_of (i := 10 * 6 + un τ 24 6) s22 (by omega)] at h4; exact h4)
      · exact hw.dr k (by omega) (by rw [← un_cg (r22 (10 * 6 + k) (by omega))]; exact h4)),
    (hw.od),
    ((wd_el hw (a := a) (y := y) rfl hl).or hw (fun _ => rfl)),
    ((wd_el hw (a := a) (y := y) rfl hl).ac hw),
    (hw.cr),
    (hw.cc),
    (hw.bn),
    (hw.be),
    (hw.bt),
    (hw.st),
    (hw.pt),
    (hw.bo),
    (hw.ng),
    (hw.gw),
    (hw.gm),
    (hw.gr),
    (hw.gt),
    (hw.gp),
    (hw.gk),
    (hw.op),
    (hw.np),
    (hw.pw),
    (hw.pm),
    (hw.pb)⟩
theorem wf_element {τ : Mu} (hw : WF τ) {c d : Nat} (hc : c ≤ un τ 26 26) (h6 : c < 6) (hd : d ≤ 63) (h1 : fmD τ 6 (un τ 24 6) = 1) (hr : (rgR τ c 7).testBit c = false) : WF (elU τ c d) := by
  have he := elS_e hw hc h6 (d := d)
  have hl := elS_lt hw (d := d) hc h6
  have ha := elS_ac hw hc h6 hr (d := d)
  have r27 : ∀ k, k < un (elS τ c d) 26 26 → (elU τ c d).1 27 k = nI (arrS (elS τ c d) (arrD (elS τ c d) k)) := fun k hk => if_pos ⟨rfl, by rw [elS_n hw] at hk; exact hk⟩
  exact ⟨(hw.nc),
    (hw.cw),
    (hw.cp),
    (hw.cf),
    (hw.ct),
    (hw.cft),
    (hw.ch),
    (hw.cn),
    (hw.cn0),
    (hw.py),
    (hw.tl),
    (fun c_ d_ h1_ h2_ => (hw.pyt c_ d_ h1_ h2_).trans (spreadV_cg (τ := τ) (τ' := elU τ c d) (c := c_) (d := d_ + 1) (fun _ _ => rfl)).symm),
    (hw.mn),
    (hw.mn0),
    (hw.mn1),
    (hw.sh),
    (hw.sc),
    (hw.sb),
    (hw.sl),
    (hw.nl),
    (hw.lc),
    (hw.ld),
    (hw.rt),
    (hw.ca),
    (hw.te),
    (he.1),
    (he.2.1),
    (he.2.2.1),
    (he.2.2.2),
    (fun e he_ => by
      have he2 : e < un (elS τ c d) 26 26 := he_
      by_cases z : e = c
      · exact z ▸ okN_of (i := c) (show (elU τ c d).1 25 c = nI d from sI_s (τ := sI (sI (cpS τ c 10) 24 c (nI (un τ 24 6))) 24 6 (nI 0)) (k := 25) (x := c) (v := nI d)) hd (by decide)
      · exact okN_cg (show (elU τ c d).1 25 e = τ.1 25 e from sI_k (τ := sI (sI (cpS τ c 10) 24 c (nI (un τ 24 6))) 24 6 (nI 0)) (k := 25) (x := c) (v := nI d) z) (hw.ep e (hl.2 e he2 z))),
    (fun e he_ => by
      have q := elS_fm hw hc h6 h1 (d := d) e he_
      exact ⟨fmOK_cg (τ := elS τ c d) (τ' := elU τ c d) (fun _ _ => rfl) q.1, (fmD_cg (τ := elS τ c d) (τ' := elU τ c d) (fun _ _ => rfl)).trans q.2⟩),
    (by
      rw [show un (elU τ c d) 24 6 = 0 from elS_el6 (τ := τ) (c := c) (d := d)]
      intro k hk; exact absurd hk (Nat.not_lt_zero _)),
    (fun k hk => by
      have hk2 : k < un (elS τ c d) 26 26 := hk
      have q := arr_s ha hl.1 hk2
      have r := r27 k hk2
      exact ⟨okN_of r (by omega) (by decide), by rw [un_of r (by omega)]; exact q.2.1⟩),
    (fun k hk => by
      have hk2 : k < un (elS τ c d) 26 26 := hk
      have q := arr_s ha hl.1 hk2
      rw [un_of (r27 k hk2) (by omega), arS_cg (τ := elS τ c d) (τ' := elU τ c d) (fun _ => rfl) (fun _ => rfl) (fun _ => rfl) rfl, arD_cg (τ := elS τ c d) (τ' := elU τ c d) (fun _ => rfl) (fun _ => rfl) (fun _ => rfl) rfl]),
    (by
      obtain ⟨rk, hk⟩ := ha
      exact ⟨rk, fun e f he_ hf_ hn => hk e f he_ hf_ (by rw [← needN_cg (τ := elS τ c d) (τ' := elU τ c d) (fun _ => rfl) (fun _ => rfl) (fun _ => rfl)]; exact hn)⟩),
    (hw.cr),
    (hw.cc),
    (hw.bn),
    (hw.be),
    (hw.bt),
    (hw.st),
    (hw.pt),
    (hw.bo),
    (hw.ng),
    (hw.gw),
    (hw.gm),
    (hw.gr),
    (hw.gt),
    (hw.gp),
    (hw.gk),
    (hw.op),
    (hw.np),
    (hw.pw),
    (hw.pm),
    (hw.pb)⟩

