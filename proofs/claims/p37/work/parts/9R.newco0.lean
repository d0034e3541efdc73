/-! WORLD: a new contract -/
theorem XO.grow {τ U : Mu} {α : Nat → Nat} {M : Mem} {s n z : Nat} (hz : ∀ a, z ≤ a → mK M a = 0) (hU : ∀ k, LV U k → LV τ k ∨ (s ≤ k ∧ k < s + n)) : XO τ α M U (nw α s n z) := fun a h0 hn k hk e => by
  by_cases r : s ≤ k ∧ k < s + n
  · refine h0 (hz a ?_)
    rw [e]; unfold nw; rw [if_pos r]; omega
  · rw [nw_o r] at e
    exact hn k ((hU k hk).resolve_right r) e
def LX (α : Nat → Nat) (L : Nat → Prop) (x : Nat) : Prop := ∃ k, LC k ∧ L k ∧ x = α k
def LB (α : Nat → Nat) (L : Nat → Prop) (M : Mem) (x : Nat) : Prop := LX α L x ∨ mK M x = 26 ∨ mK M x = 0
theorem LX.no {τ : Mu} {G : gW} {α : Nat → Nat} {M : Mem} {L : Nat → Prop} (ws : WS τ G α M) {k : Nat} (hk : LV τ k) (hn : ¬ (LC k ∧ L k)) : ¬ LX α L (α k) := by
  rintro ⟨j, h1, h2, e⟩
  have := ws.1 k j hk h1.lv e
  subst this
  exact hn ⟨h1, h2⟩
theorem LB.no {τ : Mu} {G : gW} {α : Nat → Nat} {M : Mem} {L : Nat → Prop} (ws : WS τ G α M) {k : Nat} (hk : LV τ k) (hn : ¬ (LC k ∧ L k)) : ¬ LB α L M (α k) := by
  rintro (h | h | h)
  · exact LX.no ws hk hn h
  · exact ws.kn6 hk h
  · exact ws.kn hk h
theorem LX.lv {τ : Mu} {α : Nat → Nat} {L : Nat → Prop} {x : Nat} (h : LX α L x) : ∃ k, LV τ k ∧ x = α k := by
  obtain ⟨k, h1, _, h2⟩ := h
  exact ⟨k, h1.lv, h2⟩
theorem KP.lfb {G : gW} {A B : Nat → Prop} {M0 M M' : Mem} {ci a s d : Nat} {e : Nat → Nat} (k : KP A B M0 M) (hst : mK M (gS G 0) = 0) (hL : LI G M ci a s e) (hd : mR M a 1 = some d) (h : LF M M' a d) (hA : A a) (hB : ∀ x, x = a ∨ mK M0 x = 26 ∨ mK M0 x = 0 → B x) : KP A B M0 M' := by
  have g : KP A (fun x => x = a ∨ mK M x = 26) M M' := KP.lf hst hL hd h hA (fun x hx => hx)
  intro x hx
  obtain ⟨a1, a2, a3, a4⟩ := k x hx
  obtain ⟨b1, b2, b3, b4⟩ := g x (by rw [a1]; exact hx)
  refine ⟨b1.trans a1, b2.trans a2, fun q => ⟨(b3 q).1.trans (a3 q).1, (b3 q).2.trans (a3 q).2⟩, fun q => (b4 (fun z => q (hB x ?_))).trans (a4 q)⟩
  rcases z with z | z
  · exact .inl z
  · exact .inr (.inl (a1 ▸ z))
theorem KP.join {A : Nat → Prop} {α : Nat → Nat} {L : Nat → Prop} {M M2 M4 : Mem} (k : ∀ A B, KP A B M M2) (g : KP A (LB α L M2) M2 M4) : KP A (LB α L M) M M4 := by
  refine (k A (LB α L M)).tr (g.mono (fun x _ h => h) fun x hx h => ?_)
  rcases h with h | h | h
  · exact .inl h
  · by_cases e : mK M x = 0
    · exact .inr (.inr e)
    · exact .inr (.inl ((k A A x e).1 ▸ h))
  · exact absurd h hx
theorem LZ.oth {G : gW} {α : Nat → Nat} {M : Mem} {sz : Nat → Nat} {el : Nat → Nat → Nat} {k0 s' k : Nat} {e' : Nat → Nat} (h : LZ G α M (fun k => if k = k0 then s' else sz k) (fun k => if k = k0 then e' else el k)) (hk : LC k) (hn : k ≠ k0) : LI G M (lsC k) (α k) (sz k) (el k) := by
  have g := h.1 k hk
  have e1 : (fun k => if k = k0 then s' else sz k) k = sz k := if_neg hn
  have e2 : (fun k => if k = k0 then e' else el k) k = el k := if_neg hn
  rw [e1, e2] at g
  exact g
theorem LZ.me {G : gW} {α : Nat → Nat} {M : Mem} {sz : Nat → Nat} {el : Nat → Nat → Nat} {k0 s' : Nat} {e' : Nat → Nat} (h : LZ G α M (fun k => if k = k0 then s' else sz k) (fun k => if k = k0 then e' else el k)) (hk : LC k0) : LI G M (lsC k0) (α k0) s' e' := by
  have g := h.1 k0 hk
  have e1 : (fun k => if k = k0 then s' else sz k) k0 = s' := if_pos rfl
  have e2 : (fun k => if k = k0 then e' else el k) k0 = e' := if_pos rfl
  rw [e1, e2] at g
  exact g
def CoN (τ U : Mu) (p q f t b w v : Nat) : Prop := (∀ k, k = 8 ∨ 10 ≤ k → U.1 k = τ.1 k) ∧ (∀ k, U.2 k = τ.2 k) ∧ un U 9 9 = un τ 9 9 + 1 ∧ (∀ k, k < 6 → ∀ c, c ≠ un τ 9 9 → U.1 k c = τ.1 k c) ∧ (un U 0 (un τ 9 9) = p ∧ un U 1 (un τ 9 9) = q ∧ un U 2 (un τ 9 9) = f ∧ un U 3 (un τ 9 9) = t ∧ un U 4 (un τ 9 9) = b ∧ un U 5 (un τ 9 9) = w) ∧
  (∀ x, x ≠ 720 * un τ 9 9 + f → U.1 6 x = τ.1 6 x) ∧ U.1 6 (720 * un τ 9 9 + f) = nI v ∧ (∀ x, ¬ (720 * un τ 9 9 ≤ x ∧ x < 720 * un τ 9 9 + 720) → U.1 7 x = τ.1 7 x) ∧ ∀ d, d < 720 → U.1 7 (720 * un τ 9 9 + d) = spreadV U (un τ 9 9) (d + 1)
theorem spread_cg {τ σ : Mu} {c : Nat} (h : ∀ d, τ.1 6 (720 * c + d) = σ.1 6 (720 * c + d)) : ∀ n, spreadV τ c n = spreadV σ c n
  | 0 => rfl
  | n + 1 => by
    show (if 0 ≤ τ.1 6 (720 * c + n) then τ.1 6 (720 * c + n) else spreadV τ c n) = (if 0 ≤ σ.1 6 (720 * c + n) then σ.1 6 (720 * c + n) else spreadV σ c n)
    rw [h n, spread_cg h n]
theorem co_f {τ : Mu} {p q f t b w v : Nat} (h9 : un τ 9 9 < 10) (hp : p < 2 ^ 31) (hq : q < 2 ^ 31) (hf : f < 2 ^ 31) (ht : t < 2 ^ 31) (hb : b < 2 ^ 31) (hw : w < 2 ^ 31) : CoN τ (coV τ p q f t b w v) p q f t b w v := by
  have k9 : ∀ k, k ≠ 9 → (coV τ p q f t b w v).1 k = (spS (coU τ p q f t b w v) (un τ 9 9) 720).1 k := fun k hk => sI_r hk
  have k7 : ∀ k x, k ≠ 9 → k ≠ 7 → (coV τ p q f t b w v).1 k x = (coU τ p q f t b w v).1 k x := fun k x h1 h2 => (congrFun (k9 k h1) x).trans (spS_o _ _ _ _ _ h2)
  have u : ∀ k x, (coU τ p q f t b w v).1 k x = up2 (up2 (up2 (up2 (up2 (up2 (up2 τ.1 0 (un τ 9 9) (nI p)) 1 (un τ 9 9) (nI q)) 2 (un τ 9 9) (nI f)) 3 (un τ 9 9) (nI t)) 4 (un τ 9 9) (nI b)) 5 (un τ 9 9) (nI w)) 6 (720 * un τ 9 9 + f) (nI v) k x := fun k x => rfl
  have u6 : ∀ x, x ≠ 720 * un τ 9 9 + f → (coV τ p q f t b w v).1 6 x = τ.1 6 x := fun x hx => by
    rw [k7 6 x (by decide) (by decide), u, up2_k _ _ hx, up2_row _ _ (by decide), up2_row _ _ (by decide), up2_row _ _ (by decide), up2_row _ _ (by decide), up2_row _ _ (by decide), up2_row _ _ (by decide)]
  have u6s : (coV τ p q f t b w v).1 6 (720 * un τ 9 9 + f) = nI v := by
    rw [k7 6 _ (by decide) (by decide), u, up2_same]
  refine ⟨fun k hk => ?_, fun k => rfl, nI_clamp (by omega), fun k hk c hc => ?_, ⟨?_, ?_, ?_, ?_, ?_, ?_⟩, u6, u6s, fun x hx => ?_, fun d hd => ?_⟩
  · funext x
    rw [k7 k x (by omega) (by omega), u, up2_row _ _ (by omega), up2_row _ _ (by omega), up2_row _ _ (by omega), up2_row _ _ (by omega), up2_row _ _ (by omega), up2_row _ _ (by omega), up2_row _ _ (by omega)]
  · rw [k7 k c (by omega) (by omega), u]
    rcases (show k = 0 ∨ k = 1 ∨ k = 2 ∨ k = 3 ∨ k = 4 ∨ k = 5 by omega) with rfl | rfl | rfl | rfl | rfl | rfl <;> simp [up2, hc]
  · unfold un; rw [k7 0 _ (by decide) (by decide), u]; simp only [up2_row _ _ (show (0 : Nat) ≠ 6 by decide), up2_row _ _ (show (0 : Nat) ≠ 5 by decide), up2_row _ _ (show (0 : Nat) ≠ 4 by decide), up2_row _ _ (show (0 : Nat) ≠ 3 by decide), up2_row _ _ (show (0 : Nat) ≠ 2 by decide), up2_row _ _ (show (0 : Nat) ≠ 1 by decide)]; exact (congrArg _ (up2_same _ _ _ _)).trans (nI_clamp hp)
  · unfold un; rw [k7 1 _ (by decide) (by decide), u]; simp only [up2_row _ _ (show (1 : Nat) ≠ 6 by decide), up2_row _ _ (show (1 : Nat) ≠ 5 by decide), up2_row _ _ (show (1 : Nat) ≠ 4 by decide), up2_row _ _ (show (1 : Nat) ≠ 3 by decide), up2_row _ _ (show (1 : Nat) ≠ 2 by decide)]; exact (congrArg _ (up2_same _ _ _ _)).trans (nI_clamp hq)
  · unfold un; rw [k7 2 _ (by decide) (by decide), u]; simp only [up2_row _ _ (show (2 : Nat) ≠ 6 by decide), up2_row _ _ (show (2 : Nat) ≠ 5 by decide), up2_row _ _ (show (2 : Nat) ≠ 4 by decide), up2_row _ _ (show (2 : Nat) ≠ 3 by decide)]; exact (congrArg _ (up2_same _ _ _ _)).trans (nI_clamp hf)
  · unfold un; rw [k7 3 _ (by decide) (by decide), u]; simp only [up2_row _ _ (show (3 : Nat) ≠ 6 by decide), up2_row _ _ (show (3 : Nat) ≠ 5 by decide), up2_row _ _ (show (3 : Nat) ≠ 4 by decide)]; exact (congrArg _ (up2_same _ _ _ _)).trans (nI_clamp ht)
  · unfold un; rw [k7 4 _ (by decide) (by decide), u]; simp only [up2_row _ _ (show (4 : Nat) ≠ 6 by decide), up2_row _ _ (show (4 : Nat) ≠ 5 by decide)]; exact (congrArg _ (up2_same _ _ _ _)).trans (nI_clamp hb)
  · unfold un; rw [k7 5 _ (by decide) (by decide), u]; simp only [up2_row _ _ (show (5 : Nat) ≠ 6 by decide)]; exact (congrArg _ (up2_same _ _ _ _)).trans (nI_clamp hw)
  · refine (congrFun (k9 7 (by decide)) x).trans ((if_neg (fun z => hx z.2)).trans ?_)
    rw [u, up2_row _ _ (by decide), up2_row _ _ (by decide), up2_row _ _ (by decide), up2_row _ _ (by decide), up2_row _ _ (by decide), up2_row _ _ (by decide), up2_row _ _ (by decide)]
  · refine (congrFun (k9 7 (by decide)) _).trans ((if_pos ⟨rfl, by omega, by omega⟩).trans ?_)
    rw [show 720 * un τ 9 9 + d - 720 * un τ 9 9 + 1 = d + 1 by omega]
    exact spread_cg (fun d => (k7 6 _ (by decide) (by decide)).symm) _


