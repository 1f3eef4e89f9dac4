/-! masks -/
theorem bt1_hi {s n : Nat} (h : s < 2 ^ n) {k : Nat} (hk : n ≤ k) : bt1 s k = 0 := by
  have : s < 2 ^ k := Nat.lt_of_lt_of_le h (Nat.pow_le_pow_right (by decide) hk)
  simp only [bt1]
  rw [Nat.div_eq_of_lt this]
theorem bts_hi {s n : Nat} (h : s < 2 ^ n) : ∀ k, n ≤ k → bts s k = bts s n := by
  intro k
  induction k with
  | zero => intro hk; obtain rfl : n = 0 := (by omega); rfl
  | succ k ih =>
    intro hk
    by_cases e : n = k + 1
    · rw [e]
    · simp only [bts]; rw [ih (by omega), bt1_hi h (by omega)]; rfl
theorem bts_hit {s : Nat} : ∀ n r, r < bts s n → ∃ q, q < n ∧ bt1 s q = 1 ∧ bts s q = r := by
  intro n
  induction n with
  | zero => intro r h; exact absurd h (by simp [bts])
  | succ n ih =>
    intro r h
    simp only [bts] at h
    have := bt1_b s n
    by_cases e : r < bts s n
    · obtain ⟨q, a, b, c⟩ := ih r e
      exact ⟨q, by omega, b, c⟩
    · exact ⟨n, by omega, by omega, by omega⟩
theorem mk_ex : ∀ (n : Nat) (p : Nat → Prop), ∃ s, s < 2 ^ n ∧ ∀ q, q < n → (bt1 s q = 1 ↔ p q) := by
  intro n
  induction n with
  | zero => intro p; exact ⟨0, by decide, fun q h => absurd h (by omega)⟩
  | succ n ih =>
    intro p
    obtain ⟨t, ht, hq⟩ := ih (fun q => p (q + 1))
    have hb : ∃ b, b < 2 ∧ (b = 1 ↔ p 0) := by
      by_cases e : p 0
      · exact ⟨1, by omega, by simp [e]⟩
      · exact ⟨0, by omega, by simp [e]⟩
    obtain ⟨b, b2, bp⟩ := hb
    refine ⟨b + 2 * t, by rw [Nat.pow_succ]; omega, fun q h => ?_⟩
    match q with
    | 0 =>
      have : bt1 (b + 2 * t) 0 = b := by simp only [bt1, Nat.pow_zero, Nat.div_one]; omega
      rw [this]; exact bp
    | q + 1 =>
      have : bt1 (b + 2 * t) (q + 1) = bt1 t q := by
        simp only [bt1]
        rw [Nat.pow_succ, Nat.mul_comm (2 ^ q) 2, ← Nat.div_div_eq_div_mul, show (b + 2 * t) / 2 = t by omega]
      rw [this]; exact hq q (by omega)
def onL (s n : Nat) : List Nat := (List.range n).filter (fun k => decide (bt1 s k = 1))
theorem onL_m {s n k : Nat} : k ∈ onL s n ↔ k < n ∧ bt1 s k = 1 := by simp [onL]
theorem onL_nd (s n : Nat) : (onL s n).Nodup := List.Pairwise.filter _ List.nodup_range
theorem onL_s (s n : Nat) : onL s (n + 1) = onL s n ++ (if bt1 s n = 1 then [n] else []) := by
  simp only [onL, List.range_succ, List.filter_append]
  by_cases e : bt1 s n = 1
  · simp [e]
  · simp [e]
theorem onL_l (s : Nat) : ∀ n, (onL s n).length = bts s n := by
  intro n
  induction n with
  | zero => rfl
  | succ n ih =>
    rw [onL_s, List.length_append, ih]
    have := bt1_b s n
    simp only [bts]
    by_cases e : bt1 s n = 1
    · rw [if_pos e, e]; rfl
    · rw [if_neg e]; simp; omega
/-- the decks that are live, and those that are even against them, by a set of bounds -/
def lvL (s n : Nat) : List Nat := (List.range n).filter (fun k => decide (bt1 s k ≠ 1))
def evL (s N n : Nat) : List Nat := (List.range n).filter (fun k => decide (bt1 s (N + k) = 1))
theorem lvL_m {s n k : Nat} : k ∈ lvL s n ↔ k < n ∧ bt1 s k ≠ 1 := by simp [lvL]
theorem evL_m {s N n k : Nat} : k ∈ evL s N n ↔ k < n ∧ bt1 s (N + k) = 1 := by simp [evL]
theorem lvL_nd (s n : Nat) : (lvL s n).Nodup := List.Pairwise.filter _ List.nodup_range
theorem lvL_l (s : Nat) : ∀ n, (lvL s n).length + bts s n = n := by
  intro n
  induction n with
  | zero => rfl
  | succ n ih =>
    have e : lvL s (n + 1) = lvL s n ++ (if bt1 s n = 1 then [] else [n]) := by
      simp only [lvL, List.range_succ, List.filter_append]
      by_cases e : bt1 s n = 1
      · simp [e]
      · simp [e]
    rw [e, List.length_append]
    have := bt1_b s n
    simp only [bts]
    by_cases e : bt1 s n = 1
    · rw [if_pos e, e]; simp; omega
    · rw [if_neg e]; simp; omega
theorem evL_l (s N : Nat) : ∀ n, (evL s N n).length + bts s N = bts s (N + n) := by
  intro n
  induction n with
  | zero => simp [evL]
  | succ n ih =>
    have e : evL s N (n + 1) = evL s N n ++ (if bt1 s (N + n) = 1 then [n] else []) := by
      simp only [evL, List.range_succ, List.filter_append]
      by_cases e : bt1 s (N + n) = 1
      · simp [e]
      · simp [e]
    rw [e, List.length_append]
    have := bt1_b s (N + n)
    show _ = bts s ((N + n) + 1)
    simp only [bts]
    by_cases e : bt1 s (N + n) = 1
    · rw [if_pos e, e]; simp; omega
    · rw [if_neg e]; simp; omega
/-- the table with a column of ones behind it -/
def wT (T : Nat → Nat → Int) (i c : Nat) : Int := if c = 5 then 1 else T i c
theorem dD_bd {T : Nat → Nat → Int} {N c : Nat} {K : Int} (K0 : 0 ≤ K) (hT : ∀ i, i < N → -2 ≤ T i c ∧ T i c ≤ 2) : ∀ (R : List Nat) (f : List Nat → Int) (n : Nat), (∀ B, (∀ r, r ∈ B → r < N) → B.length + 1 ≤ n → - K ≤ f B ∧ f B ≤ K) → (∀ r, r ∈ R → r < N) → R.length ≤ n → - (2 * R.length * K) ≤ dD T c R f ∧ dD T c R f ≤ 2 * R.length * K := by
  intro R
  induction R with
  | nil => intro f n _ _ _; simp [dD]
  | cons r B ih =>
    intro f n hf hR hl
    simp only [List.length_cons] at hl
    have a := hf B (fun q hq => hR q (List.mem_cons_of_mem _ hq)) hl
    have b := ih (fun B' => f (r :: B')) (n - 1) (fun B' h1 h2 => hf (r :: B') (fun q hq => by
      rcases List.mem_cons.mp hq with e | e
      · rw [e]; exact hR r List.mem_cons_self
      · exact h1 q e) (by simp only [List.length_cons]; omega)) (fun q hq => hR q (List.mem_cons_of_mem _ hq)) (by omega)
    have t := hT r (hR r List.mem_cons_self)
    have m : - (2 * K) ≤ T r c * f B ∧ T r c * f B ≤ 2 * K := by
      rcases (show T r c = -2 ∨ T r c = -1 ∨ T r c = 0 ∨ T r c = 1 ∨ T r c = 2 by omega) with e | e | e | e | e <;> rw [e] <;> omega
    simp only [dD, List.length_cons]
    have e : 2 * ((B.length + 1 : Nat) : Int) * K = 2 * (B.length : Int) * K + 2 * K := by rw [Int.natCast_add]; grind
    rw [e]; omega
theorem dt_bd {T : Nat → Nat → Int} {N : Nat} (hT : ∀ i j, i < N → j < N → -2 ≤ T i j ∧ T i j ≤ 2) : ∀ (C R : List Nat), (∀ c, c ∈ C → c < N ∨ c = 5) → (∀ r, r ∈ R → r < N) → R.length ≤ 5 → - (10 ^ C.length : Int) ≤ dt (wT T) C R ∧ dt (wT T) C R ≤ (10 ^ C.length : Int) := by
  intro C
  induction C with
  | nil =>
    intro R _ _ _
    match R with
    | [] => simp [dt]
    | _ :: _ => simp [dt]
  | cons c C ih =>
    intro R hC hR hl
    have K0 : (0 : Int) ≤ 10 ^ C.length := Int.pow_nonneg (by decide)
    have h := dD_bd (T := wT T) (N := N) (c := c) K0 (fun i hi => by
      simp only [wT]
      by_cases e : c = 5
      · rw [if_pos e]; omega
      · rw [if_neg e]; exact hT i c hi (by have := hC c List.mem_cons_self; omega)) R (dt (wT T) C) 5 (fun B h1 h2 => ih B (fun q hq => hC q (List.mem_cons_of_mem _ hq)) h1 (by omega)) hR hl
    have e : (10 : Int) ^ (c :: C).length = 10 * 10 ^ C.length := by rw [List.length_cons, Int.pow_succ]; omega
    show - (10 ^ (c :: C).length : Int) ≤ dD (wT T) c R (dt (wT T) C) ∧ dD (wT T) c R (dt (wT T) C) ≤ (10 ^ (c :: C).length : Int)
    rw [e]
    have m : 2 * (R.length : Int) * (10 ^ C.length : Int) ≤ 10 * 10 ^ C.length := Int.mul_le_mul_of_nonneg_right (by omega) K0
    omega
theorem cf_bd {N : Nat} {K : Int} (K0 : 0 ≤ K) : ∀ (R : List Nat) (f : List Nat → Int) (n : Nat), (∀ B, (∀ r, r ∈ B → r < N) → B.length + 1 ≤ n → - K ≤ f B ∧ f B ≤ K) → (∀ r, r ∈ R → r < N) → R.length ≤ n → ∀ i, - K ≤ cf R f i ∧ cf R f i ≤ K := by
  intro R
  induction R with
  | nil => intro f n _ _ _ i; simp only [cf]; omega
  | cons r B ih =>
    intro f n hf hR hl i
    simp only [List.length_cons] at hl
    simp only [cf]
    by_cases e : i = r
    · rw [if_pos e]; exact hf B (fun q hq => hR q (List.mem_cons_of_mem _ hq)) hl
    · rw [if_neg e]
      have b := ih (fun B' => f (r :: B')) (n - 1) (fun B' h1 h2 => hf (r :: B') (fun q hq => by
        rcases List.mem_cons.mp hq with e | e
        · rw [e]; exact hR r List.mem_cons_self
        · exact h1 q e) (by simp only [List.length_cons]; omega)) (fun q hq => hR q (List.mem_cons_of_mem _ hq)) (by omega) i
      omega
/-- the corner of live decks L that are even against E -/
def crn (T : Nat → Nat → Int) (L E : List Nat) (i : Nat) : Int := cf L (dt (wT T) E) i
theorem crn_bd {T : Nat → Nat → Int} {N : Nat} (h5 : N ≤ 5) (hT : ∀ i j, i < N → j < N → -2 ≤ T i j ∧ T i j ≤ 2) {L E : List Nat} (hL : ∀ k, k ∈ L → k < N) (hE : ∀ k, k ∈ E → k < N) (hl : L.length ≤ 5) (he : E.length ≤ 4) (i : Nat) : -10000 ≤ crn T L E i ∧ crn T L E i ≤ 10000 := by
  refine cf_bd (N := N) (by decide) L (dt (wT T) E) 5 (fun B h1 h2 => ?_) hL hl i
  have h := dt_bd hT E B (fun c hc => Or.inl (hE c hc)) h1 (by omega)
  have m : (10 : Int) ^ E.length ≤ 10000 := by
    rcases (show E.length = 0 ∨ E.length = 1 ∨ E.length = 2 ∨ E.length = 3 ∨ E.length = 4 by omega) with e | e | e | e | e <;> rw [e] <;> decide
  omega
theorem sumK_bd {f : Nat → Int} {B : Int} : ∀ n, (∀ i, i < n → - B ≤ f i ∧ f i ≤ B) → - (n * B) ≤ sumK f n ∧ sumK f n ≤ n * B := by
  intro n
  induction n with
  | zero => intro _; simp [sumK]
  | succ n ih =>
    intro h
    have a := ih (fun i hi => h i (by omega))
    have b := h n (by omega)
    have e : ((n + 1 : Nat) : Int) * B = n * B + B := by rw [Int.natCast_add]; grind
    simp only [sumK]; rw [e]; omega
theorem crn_even {T : Nat → Nat → Int} {N : Nat} (h5 : N ≤ 5) {L E : List Nat} (nd : L.Nodup) (hL : ∀ k, k ∈ L → k < N) {e : Nat} (he : e ∈ E) (hN : e < N) : sumK (fun i => crn T L E i * T i e) N = 0 := by
  have h := dt_dup (wT T) E e he L
  have c := cf_sum (wT T) e N L (dt (wT T) E) nd hL
  have q : sumK (fun i => crn T L E i * T i e) N = sumK (fun i => cf L (dt (wT T) E) i * wT T i e) N := sumK_congr N (fun i _ => by simp only [wT, crn]; rw [if_neg (by omega)])
  rw [q, ← c]; exact h
theorem crn_sum {T : Nat → Nat → Int} {N : Nat} {L E : List Nat} (nd : L.Nodup) (hL : ∀ k, k ∈ L → k < N) : sumK (crn T L E) N = dt (wT T) (5 :: E) L := by
  have c := cf_sum (wT T) 5 N L (dt (wT T) E) nd hL
  have q : sumK (crn T L E) N = sumK (fun i => cf L (dt (wT T) E) i * wT T i 5) N := sumK_congr N (fun i _ => by simp only [wT, crn, if_pos]; omega)
  rw [q, ← c]; rfl
/-- bounds that leave one point: it is the corner's -/
theorem corner {T : Nat → Nat → Int} {N s : Nat} (h1 : 1 ≤ N) (h5 : N ≤ 5) (hc : bts s (2 * N) = N - 1) (hs : sole T N (fun q => bt1 s q = 1)) : sumK (crn T (lvL s N) (evL s N N)) N ≠ 0 ∧ ∀ q, q < 2 * N → bt1 s q = 1 → con T N q (crn T (lvL s N) (evL s N N)) = 0 := by
  have nd := lvL_nd s N
  have hL : ∀ k, k ∈ lvL s N → k < N := fun k hk => (lvL_m.mp hk).1
  have l1 := lvL_l s N
  have l2 := evL_l s N N
  rw [show N + N = 2 * N by omega, hc] at l2
  constructor
  · intro z
    rw [crn_sum nd hL] at z
    obtain ⟨y, ⟨k, k1, k2⟩, y2, y3⟩ := dt_ker (wT T) N (5 :: evL s N N) (lvL s N) nd hL (by rw [List.length_cons]; omega) z
    refine k2 (hs y ?_ ?_ k (hL k k1))
    · have := y3 5 List.mem_cons_self
      rw [sumK_congr (g := y) N (fun i _ => by simp only [wT, if_pos]; omega)] at this
      exact this
    · intro q hq hb
      by_cases e : q < N
      · rw [con_lt T e]; exact y2 q (fun h => (lvL_m.mp h).2 hb)
      · have e2 : q = N + (q - N) := by omega
        rw [e2, con_ge]
        have := y3 (q - N) (List.mem_cons_of_mem _ (evL_m.mpr ⟨by omega, by rw [← e2]; exact hb⟩))
        rw [sumK_congr (g := fun i => y i * T i (q - N)) N (fun i _ => by simp only [wT]; rw [if_neg (by omega)])] at this
        exact this
  · intro q hq hb
    by_cases e : q < N
    · rw [con_lt T e]; exact cf_out _ _ _ (fun h => (lvL_m.mp h).2 hb)
    · have e2 : q = N + (q - N) := by omega
      rw [e2, con_ge]
      exact crn_even h5 nd hL (evL_m.mpr ⟨by omega, by rw [← e2]; exact hb⟩) (by omega)
/-- every mix is behind, or at, a point that some set of bounds leaves alone -/
theorem mix_set {T : Nat → Nat → Int} {N : Nat} (h0 : 0 < N) {y : Nat → Int} (hy : inP T N y) : ∃ (s : Nat) (x : Nat → Int), s < 2 ^ (2 * N) ∧ bts s (2 * N) = N - 1 ∧ sole T N (fun q => bt1 s q = 1) ∧ inP T N x ∧ (∀ q, q < 2 * N → bt1 s q = 1 → con T N q x = 0) ∧ lge N x y := by
  obtain ⟨S, x, nd, hS, hl, so, hx, ht, hg⟩ := mix_up h0 hy
  obtain ⟨s, s2, hs⟩ := mk_ex (2 * N) (fun k => k ∈ S)
  refine ⟨s, x, s2, ?_, ?_, hx, fun q hq hb => ht q ((hs q hq).mp hb), hg⟩
  · rw [← onL_l, ← hl]
    refine List.Perm.length_eq ((List.perm_ext_iff_of_nodup (onL_nd s _) nd).mpr (fun k => ?_))
    rw [onL_m]
    constructor
    · intro h; exact (hs k h.1).mp h.2
    · intro h; exact ⟨hS k h, (hs k (hS k h)).mpr h⟩
  · intro z z0 zS
    exact so z z0 (fun k hk h => zS k hk ((hs k hk).mpr h))
/-- a fraction in least terms -/
theorem fr_dvd {b u y W : Int} (hb : 0 < b) (hg : Int.gcd u b = 1) (h : b * y = u * W) : ∃ t, W = b * t ∧ y = u * t := by
  have d : b.natAbs ∣ u.natAbs * W.natAbs := by
    rw [← Int.natAbs_mul, ← h, Int.natAbs_mul]; exact Nat.dvd_mul_right _ _
  have c : Nat.Coprime b.natAbs u.natAbs := by
    have : Nat.gcd u.natAbs b.natAbs = 1 := hg
    rw [Nat.Coprime, Nat.gcd_comm]; exact this
  have e := Int.natAbs_dvd_natAbs.mp (Nat.Coprime.dvd_of_dvd_mul_left c d)
  obtain ⟨t, ht⟩ := e
  exact ⟨t, ht, Int.eq_of_mul_eq_mul_left (show b ≠ 0 by omega) (by rw [h, ht]; grind)⟩
theorem fr_eq {b u b' u' : Int} (hb : 0 < b) (hb' : 0 < b') (hg : Int.gcd u b = 1) (hg' : Int.gcd u' b' = 1) (h : u * b' = u' * b) : u = u' ∧ b = b' := by
  obtain ⟨t, t1, t2⟩ := fr_dvd (y := u') (W := b') hb hg (by rw [h]; exact Int.mul_comm _ _)
  obtain ⟨r, r1, r2⟩ := fr_dvd (y := u) (W := b) hb' hg' (by rw [← h]; exact Int.mul_comm _ _)
  have tr : t = 1 := by
    have e : b' * (r * t) = b' * 1 := by
      have : b' = b' * r * t := by rw [← r1]; exact t1
      grind
    have e := Int.eq_of_mul_eq_mul_left (show b' ≠ 0 by omega) e
    have tp : 0 < t := by
      by_cases q : 0 < t
      · exact q
      · have := Int.mul_nonneg (show 0 ≤ b by omega) (show 0 ≤ - t by omega)
        grind
    have rp : 0 < r := by
      by_cases q : 0 < r
      · exact q
      · have := Int.mul_nonneg (show 0 ≤ b' by omega) (show 0 ≤ - r by omega)
        grind
    by_cases q : t = 1
    · exact q
    · have := Int.mul_nonneg (show 0 ≤ r - 1 by omega) (show 0 ≤ t by omega)
      grind
  subst tr
  exact ⟨by omega, by omega⟩
