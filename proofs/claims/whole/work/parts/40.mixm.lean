/-! sums -/
theorem sumK_lin (a b : Int) (f g : Nat → Int) : ∀ m, sumK (fun k => a * f k + b * g k) m = a * sumK f m + b * sumK g m := by
  intro m
  induction m with
  | zero => simp [sumK]
  | succ m ih => simp only [sumK]; rw [ih]; grind
theorem sumK_zero {f : Nat → Int} : ∀ m, (∀ k, k < m → f k = 0) → sumK f m = 0 := by
  intro m
  induction m with
  | zero => intro _; rfl
  | succ m ih => intro h; simp only [sumK]; rw [ih (fun k hk => h k (by omega)), h m (by omega)]; rfl
theorem sumK_ite (f : Nat → Int) {p : Nat} : ∀ m, p < m → sumK (fun k => if k = p then f k else 0) m = f p := by
  intro m
  induction m with
  | zero => intro h; exact absurd h (by omega)
  | succ m ih =>
    intro h
    simp only [sumK]
    by_cases e : m = p
    · subst e
      rw [sumK_zero m (fun k hk => if_neg (by omega)), if_pos rfl]; omega
    · rw [if_neg e, ih (by omega)]; omega
theorem sumK_nn {f : Nat → Int} : ∀ m, (∀ k, k < m → 0 ≤ f k) → 0 ≤ sumK f m := by
  intro m
  induction m with
  | zero => intro _; simp [sumK]
  | succ m ih => intro h; simp only [sumK]; have := ih (fun k hk => h k (by omega)); have := h m (by omega); omega
theorem sumK_nz {f : Nat → Int} : ∀ m, (∀ k, k < m → 0 ≤ f k) → sumK f m = 0 → ∀ k, k < m → f k = 0 := by
  intro m
  induction m with
  | zero => intro _ _ k hk; exact absurd hk (by omega)
  | succ m ih =>
    intro h e k hk
    simp only [sumK] at e
    have h1 := sumK_nn m (fun k hk => h k (by omega))
    have h2 := h m (by omega)
    by_cases c : k = m
    · subst c; omega
    · exact ih (fun k hk => h k (by omega)) (by omega) k (by omega)
theorem sumK_mul (a : Int) (f : Nat → Int) (m : Nat) : sumK (fun k => a * f k) m = a * sumK f m := by
  have h := sumK_lin a 0 f f m
  simp only [Int.zero_mul, Int.add_zero] at h
  exact h
theorem sumK_neg (f : Nat → Int) (m : Nat) : sumK (fun k => - f k) m = - sumK f m := by
  have h := sumK_mul (-1) f m
  rw [sumK_congr (g := fun k => -1 * f k) m (fun k _ => by omega), h]; omega
/-! more vectors than places: a combination is nought -/
theorem ker_ex (m : Nat) : ∀ (n : Nat) (R : Nat → Nat → Int) (A : List Nat), A.Nodup → (∀ k, k ∈ A → k < m) → n < A.length → ∃ z : Nat → Int, (∃ k, k ∈ A ∧ z k ≠ 0) ∧ (∀ k, ¬ k ∈ A → z k = 0) ∧ ∀ c, c < n → sumK (fun k => z k * R k c) m = 0 := by
  intro n
  induction n with
  | zero =>
    intro R A hA hm hl
    match A, hl with
    | k :: A, _ =>
      refine ⟨fun i => if i = k then 1 else 0, ⟨k, List.mem_cons_self, by simp⟩, ?_, fun c hc => absurd hc (by omega)⟩
      intro i hi
      exact if_neg (fun (e : i = k) => hi (by rw [e]; exact List.mem_cons_self))
  | succ n ih =>
    intro R A hA hm hl
    by_cases hp : ∃ p, p ∈ A ∧ R p n ≠ 0
    · obtain ⟨p, pA, pn⟩ := hp
      obtain ⟨z, ⟨k, kA, kz⟩, hs, hz⟩ := ih (fun k c => R p n * R k c - R k n * R p c) (A.erase p) (hA.erase p) (fun k hk => hm k (List.mem_of_mem_erase hk)) (by rw [List.length_erase_of_mem pA]; omega)
      have zp : z p = 0 := hs p (by intro h; exact ((List.Nodup.mem_erase_iff hA).mp h).1 rfl)
      have key : ∀ c, sumK (fun k => (R p n * z k + (if k = p then - sumK (fun j => z j * R j n) m else 0)) * R k c) m = R p n * sumK (fun k => z k * R k c) m - sumK (fun j => z j * R j n) m * R p c := by
        intro c
        rw [sumK_congr (g := fun k => R p n * (z k * R k c) + (- sumK (fun j => z j * R j n) m) * (if k = p then R k c else 0)) m (fun k _ => by
          by_cases e : k = p
          · rw [if_pos e, if_pos e]; grind
          · rw [if_neg e, if_neg e]; grind), sumK_lin, sumK_ite (fun k => R k c) m (hm p pA)]
        grind
      refine ⟨fun k => R p n * z k + (if k = p then - sumK (fun j => z j * R j n) m else 0), ⟨k, List.mem_of_mem_erase kA, ?_⟩, ?_, ?_⟩
      · have e : k ≠ p := ((List.Nodup.mem_erase_iff hA).mp kA).1
        simp only [if_neg e, Int.add_zero]
        exact Int.mul_ne_zero pn kz
      · intro i hi
        have e : i ≠ p := fun e => hi (e ▸ pA)
        simp only [if_neg e, hs i (fun h => hi (List.mem_of_mem_erase h))]
        omega
      · intro c hc
        rw [key c]
        by_cases e : c = n
        · subst e; grind
        · have h := hz c (by omega)
          rw [sumK_congr (g := fun k => R p n * (z k * R k c) + (- R p c) * (z k * R k n)) m (fun k _ => by grind), sumK_lin] at h
          grind
    · obtain ⟨z, h1, h2, h3⟩ := ih R A hA hm (by omega)
      refine ⟨z, h1, h2, fun c hc => ?_⟩
      by_cases e : c = n
      · subst e
        refine sumK_zero m (fun k _ => ?_)
        by_cases a : k ∈ A
        · have : R k c = 0 := by
            by_cases q : R k c = 0
            · exact q
            · exact absurd ⟨k, a, q⟩ hp
          rw [this]; omega
        · rw [h2 k a]; omega
      · exact h3 c (by omega)
/-! minors -/
def dD (T : Nat → Nat → Int) (c : Nat) : List Nat → (List Nat → Int) → Int
  | [], _ => 0
  | r :: B, f => T r c * f B - dD T c B (fun B' => f (r :: B'))
theorem dD_lin (T : Nat → Nat → Int) (c : Nat) (a : Int) : ∀ (R : List Nat) (f g : List Nat → Int), dD T c R (fun B => a * f B - g B) = a * dD T c R f - dD T c R g := by
  intro R
  induction R with
  | nil => intro f g; simp [dD]
  | cons r B ih => intro f g; simp only [dD]; rw [ih]; grind
theorem dD_zero (T : Nat → Nat → Int) (c : Nat) : ∀ (R : List Nat), dD T c R (fun _ => 0) = 0 := by
  intro R
  induction R with
  | nil => rfl
  | cons r B ih => simp only [dD]; rw [ih]; omega
theorem dD_swap (T : Nat → Nat → Int) (a b : Nat) : ∀ (R : List Nat) (f : List Nat → Int), dD T a R (fun B => dD T b B f) + dD T b R (fun B => dD T a B f) = 0 := by
  intro R
  induction R with
  | nil => intro f; rfl
  | cons r B ih =>
    intro f
    simp only [dD]
    rw [dD_lin, dD_lin]
    have h := ih (fun B' => f (r :: B'))
    grind
def dt (T : Nat → Nat → Int) : List Nat → List Nat → Int
  | [], [] => 1
  | [], _ :: _ => 0
  | c :: C, R => dD T c R (fun B => dt T C B)
theorem dt_dup (T : Nat → Nat → Int) : ∀ (C : List Nat) (c : Nat), c ∈ C → ∀ R, dt T (c :: C) R = 0 := by
  intro C
  induction C with
  | nil => intro c h; exact absurd h (by simp)
  | cons d C ih =>
    intro c h R
    have s := dD_swap T c d R (dt T C)
    simp only [dt]
    by_cases e : c = d
    · subst e
      have s' : dD T c R (fun B => dD T c B (dt T C)) + dD T c R (fun B => dD T c B (dt T C)) = 0 := s
      show dD T c R (fun B => dD T c B (dt T C)) = 0
      omega
    · have hc : c ∈ C := by
        rcases List.mem_cons.mp h with h | h
        · exact absurd h e
        · exact h
      have z : (fun B => dD T c B (dt T C)) = (fun _ => (0 : Int)) := by
        funext B
        exact ih c hc B
      rw [z, dD_zero] at s
      show dD T c R (fun B => dD T d B (dt T C)) = 0
      omega
def cf : List Nat → (List Nat → Int) → Nat → Int
  | [], _, _ => 0
  | r :: B, f, i => if i = r then f B else - cf B (fun B' => f (r :: B')) i
theorem cf_out : ∀ (R : List Nat) (f : List Nat → Int) (i : Nat), ¬ i ∈ R → cf R f i = 0 := by
  intro R
  induction R with
  | nil => intro f i _; rfl
  | cons r B ih =>
    intro f i h
    have h1 : i ≠ r := fun e => h (e ▸ List.mem_cons_self)
    simp only [cf, if_neg h1]
    rw [ih _ i (fun e => h (List.mem_cons_of_mem _ e))]; rfl
theorem cf_sum (T : Nat → Nat → Int) (c m : Nat) : ∀ (R : List Nat) (f : List Nat → Int), R.Nodup → (∀ k, k ∈ R → k < m) → dD T c R f = sumK (fun i => cf R f i * T i c) m := by
  intro R
  induction R with
  | nil => intro f _ _; simp only [dD, cf]; exact (sumK_zero m (fun k _ => by omega)).symm
  | cons r B ih =>
    intro f hn hm
    have hr : ¬ r ∈ B := (List.nodup_cons.mp hn).1
    simp only [dD]
    rw [ih _ (List.nodup_cons.mp hn).2 (fun k hk => hm k (List.mem_cons_of_mem _ hk))]
    rw [sumK_congr (f := fun i => cf (r :: B) f i * T i c) (g := fun i => f B * (if i = r then T i c else 0) + (-1) * (cf B (fun B' => f (r :: B')) i * T i c)) m (fun i _ => by
      by_cases e : i = r
      · subst e; simp only [cf, if_pos]; rw [cf_out _ _ _ hr]; grind
      · simp only [cf, if_neg e]; grind), sumK_lin, sumK_ite (fun k => T k c) m (hm r List.mem_cons_self)]
    grind
theorem cf_er : ∀ (R : List Nat) (f : List Nat → Int) (i : Nat), i ∈ R → cf R f i = 0 → f (R.erase i) = 0 := by
  intro R
  induction R with
  | nil => intro f i h; exact absurd h (by simp)
  | cons r B ih =>
    intro f i h e
    by_cases c : i = r
    · subst c
      simp only [cf, if_pos] at e
      simpa using e
    · simp only [cf, if_neg c] at e
      have hb : i ∈ B := by
        rcases List.mem_cons.mp h with h | h
        · exact absurd h c
        · exact h
      have q := ih (fun B' => f (r :: B')) i hb (by omega)
      rw [List.erase_cons_tail (by simp; omega)]
      exact q
theorem dt_ker (T : Nat → Nat → Int) (m : Nat) : ∀ (C R : List Nat), R.Nodup → (∀ k, k ∈ R → k < m) → R.length = C.length → dt T C R = 0 → ∃ z : Nat → Int, (∃ k, k ∈ R ∧ z k ≠ 0) ∧ (∀ k, ¬ k ∈ R → z k = 0) ∧ ∀ c, c ∈ C → sumK (fun i => z i * T i c) m = 0 := by
  intro C
  induction C with
  | nil =>
    intro R _ _ hl h
    match R, hl with
    | [], _ => simp [dt] at h
  | cons c C ih =>
    intro R hR hm hl h
    by_cases hp : ∃ i, i ∈ R ∧ cf R (dt T C) i ≠ 0
    · refine ⟨cf R (dt T C), hp, fun k hk => cf_out R _ k hk, ?_⟩
      intro d hd
      rw [← cf_sum T d m R (dt T C) hR hm]
      rcases List.mem_cons.mp hd with e | e
      · subst e; exact h
      · exact dt_dup T C d e R
    · have all : ∀ i, i ∈ R → dt T C (R.erase i) = 0 := by
        intro i hi
        refine cf_er R (dt T C) i hi ?_
        by_cases q : cf R (dt T C) i = 0
        · exact q
        · exact absurd ⟨i, hi, q⟩ hp
      have lift : ∀ i, i ∈ R → ∃ z : Nat → Int, z i = 0 ∧ (∃ k, k ∈ R ∧ z k ≠ 0) ∧ (∀ k, ¬ k ∈ R → z k = 0) ∧ ∀ c, c ∈ C → sumK (fun i => z i * T i c) m = 0 := by
        intro i hi
        obtain ⟨z, ⟨k, k1, k2⟩, z2, z3⟩ := ih (R.erase i) (hR.erase i) (fun k hk => hm k (List.mem_of_mem_erase hk)) (by rw [List.length_erase_of_mem hi, hl]; rfl) (all i hi)
        exact ⟨z, z2 i (fun h => ((List.Nodup.mem_erase_iff hR).mp h).1 rfl), ⟨k, List.mem_of_mem_erase k1, k2⟩, fun k hk => z2 k (fun h => hk (List.mem_of_mem_erase h)), z3⟩
      match R, hl with
      | r :: B, _ =>
        obtain ⟨z0, _, ⟨k0, k0R, k0z⟩, z02, z03⟩ := lift r List.mem_cons_self
        obtain ⟨z1, z1k, ⟨k1, k1R, k1z⟩, z12, z13⟩ := lift k0 k0R
        by_cases e : sumK (fun i => z1 i * T i c) m = 0
        · refine ⟨z1, ⟨k1, k1R, k1z⟩, z12, ?_⟩
          intro d hd
          rcases List.mem_cons.mp hd with x | x
          · subst x; exact e
          · exact z13 d x
        · have key : ∀ d, sumK (fun i => (sumK (fun i => z1 i * T i c) m * z0 i + (- sumK (fun i => z0 i * T i c) m) * z1 i) * T i d) m = sumK (fun i => z1 i * T i c) m * sumK (fun i => z0 i * T i d) m + (- sumK (fun i => z0 i * T i c) m) * sumK (fun i => z1 i * T i d) m := by
            intro d
            rw [← sumK_lin]
            exact sumK_congr m (fun i _ => by grind)
          refine ⟨fun i => sumK (fun i => z1 i * T i c) m * z0 i + (- sumK (fun i => z0 i * T i c) m) * z1 i, ⟨k0, k0R, ?_⟩, ?_, ?_⟩
          · simp only [z1k, Int.mul_zero, Int.add_zero]
            exact Int.mul_ne_zero e k0z
          · intro k hk
            simp only [z02 k hk, z12 k hk]; omega
          · intro d hd
            rw [key d]
            rcases List.mem_cons.mp hd with x | x
            · subst x; grind
            · rw [z03 d x, z13 d x]; omega
