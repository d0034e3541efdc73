/-! VIEW: spec functions agree where what they read agrees (fields below 30) -/
theorem u_wk {τ U : Mu} (h : ∀ k, k < 30 → U.1 k = τ.1 k) {p d : Nat} : worksB U p d = worksB τ p d := by
  have e : workB U p d = workB τ p d := by
    funext c
    unfold workB
    rw [un_e (h 0 (by decide)), un_e (h 2 (by decide)), un_e (h 3 (by decide))]
  unfold worksB
  rw [e, un_e (h 9 (by decide))]
theorem u_tkK {τ U : Mu} (h : ∀ k, k < 30 → U.1 k = τ.1 k) {p d : Nat} {s : Nat × Nat} : ∀ k, tkK U p d s k = tkK τ p d s k
  | 0 => rfl
  | k + 1 => by
    unfold tkK
    rw [u_tkK h k, un_e (h 0 (by decide)), un_e (h 14 (by decide)), un_e (h 15 (by decide))]
theorem u_tkD {τ U : Mu} (h : ∀ k, k < 30 → U.1 k = τ.1 k) {p d : Nat} {s : Nat × Nat} : tkD U p d s = tkD τ p d s := by
  unfold tkD tkH
  rw [u_wk h, un_e (h 18 (by decide)), un_e (h 19 (by decide)), un_e (h 20 (by decide))]
theorem u_tk {τ U : Mu} (h : ∀ k, k < 30 → U.1 k = τ.1 k) {p : Nat} : ∀ d, tk U p d = tk τ p d
  | 0 => rfl
  | d + 1 => by
    show tkK U p d (tkD U p d (tk U p d)) (un U 17 17) = tkK τ p d (tkD τ p d (tk τ p d)) (un τ 17 17)
    rw [u_tk h d, u_tkD h, u_tkK h, un_e (h 17 (by decide))]
theorem u_lt {τ U : Mu} (h : ∀ k, k < 30 → U.1 k = τ.1 k) : ltN U = ltN τ := by
  funext k
  unfold ltN ltS
  rw [un_e (h 0 (by decide)), un_e (h 14 (by decide)), un_e (h 15 (by decide)), u_tk h, u_tkD h, u_tkK h]
theorem u_pay {τ U : Mu} (h : ∀ k, k < 30 → U.1 k = τ.1 k) : payD U = payD τ := by
  funext c d
  unfold payD
  rw [un_e (h 2 (by decide)), un_e (h 3 (by decide)), un_e (h 7 (by decide))]
theorem u_ba {τ U : Mu} (h : ∀ k, k < 30 → U.1 k = τ.1 k) {l : Nat → Nat} {c m : Nat} : baseN U l c m = baseN τ l c m := by
  have ep := u_pay h
  have ed : dayN U c = dayN τ c := by funext d; unfold dayN isOfN; rw [ep, un_e (h 2 (by decide)), un_e (h 3 (by decide)), un_e (h 4 (by decide)), un_e (h 8 (by decide))]
  have eo : overP U c = overP τ c := by funext w; unfold overP hourN overN ovD ovA; rw [ep, un_e (h 4 (by decide)), un_e (h 5 (by decide)), un_e (h 8 (by decide))]
  have el : leaveP U l c m = leaveP τ l c m := by funext k; unfold leaveP; rw [ep, un_e (h 4 (by decide)), un_e (h 5 (by decide)), un_e (h 14 (by decide)), un_e (h 15 (by decide))]
  unfold baseN baseD baseW
  rw [ed, eo, el, un_e (h 4 (by decide)), un_e (h 17 (by decide))]
theorem u_gb {τ U : Mu} (h : ∀ k, k < 30 → U.1 k = τ.1 k) {p m q n : Nat} : gbN U p m q n = gbN τ p m q n := by
  unfold gbN
  simp only [un_e (h 0 (by decide)), un_e (h 1 (by decide)), u_lt h, u_ba h]
theorem u_bs {τ U : Mu} (h : ∀ k, k < 30 → U.1 k = τ.1 k) {p m n : Nat} : bsN U p m n = bsN τ p m n := by
  unfold bsN
  simp only [un_e (h 0 (by decide)), u_lt h, u_ba h]
theorem u_hr {τ U : Mu} (h : ∀ k, k < 30 → U.1 k = τ.1 k) {p m n : Nat} : hrN U p m n = hrN τ p m n := by
  unfold hrN hrC
  simp only [un_e (h 0 (by decide)), un_e (h 8 (by decide))]
theorem u_ho {τ U : Mu} (h : ∀ k, k < 30 → U.1 k = τ.1 k) {p m : Nat} : homeN U p m = homeN τ p m := by
  have e : homeB U p m = homeB τ p m := by
    funext c
    unfold homeB
    rw [un_e (h 0 (by decide)), un_e (h 2 (by decide)), un_e (h 3 (by decide))]
  unfold homeN
  rw [e, un_e (h 9 (by decide)), un_e (h 1 (by decide))]
theorem u_fmP {τ U : Mu} (h : ∀ k, k < 30 → U.1 k = τ.1 k) {cm : Nat → Int64} {b g : Int64} {e : Nat} : ∀ k, fmP U cm b g e k = fmP τ cm b g e k
  | 0 => rfl
  | k + 1 => by
    unfold fmP singL
    rw [u_fmP h k, fmD_u (h 22 (by decide)), un_e (h 22 (by decide)), un_e (h 23 (by decide)), un_e (h 26 (by decide)), h 23 (by decide)]
theorem u_cm {τ U : Mu} (h : ∀ k, k < 30 → U.1 k = τ.1 k) {p m : Nat} : ∀ k, cmL U p m k = cmL τ p m k
  | 0 => rfl
  | k + 1 => by
    unfold cmL formL
    rw [u_cm h k, u_fmP h, u_bs h, u_hr h, un_e (h 9 (by decide)), un_e (h 24 (by decide)), un_e (h 25 (by decide)), un_e (h 27 (by decide))]
theorem u_gE {τ U : Mu} (h : ∀ k, k < 30 → U.1 k = τ.1 k) {p m : Nat} : ∀ k, gE U p m k = gE τ p m k
  | 0 => rfl
  | k + 1 => by
    show gE U p m k + cmL U p m (k + 1) (un U 27 k) = gE τ p m k + cmL τ p m (k + 1) (un τ 27 k)
    rw [u_gE h k, u_cm h, un_e (h 27 (by decide))]
theorem u_el {τ U : Mu} (h : ∀ k, k < 30 → U.1 k = τ.1 k) {p m e : Nat} : elL U p m e = elL τ p m e := by
  unfold elL
  rw [u_cm h, un_e (h 26 (by decide))]
theorem u_left {τ U : Mu} (h : ∀ k, k < 30 → U.1 k = τ.1 k) {p d : Nat} : leftN U p d = leftN τ p d := by
  unfold leftN
  rw [u_tk h, u_tkD h]
/-- gross, where the bonuses agree too -/
theorem u_gr {τ U : Mu} (h : ∀ k, k < 30 → U.1 k = τ.1 k) {p m q : Nat} (hb : U.1 30 (72 * p + 3 * m + q) = τ.1 30 (72 * p + 3 * m + q)) : grL U p m q = grL τ p m q := by
  unfold grL boL
  rw [hb, u_gb h, u_ho h, u_gE h, un_e (h 9 (by decide)), un_e (h 26 (by decide))]

