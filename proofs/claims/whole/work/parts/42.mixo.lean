/-! the bounds of a mix: k < N the share of k, else the sum against k - N -/
def ct (T : Nat → Nat → Int) (N k i : Nat) : Int := if k < N then (if i = k then 1 else 0) else T i (k - N)
def con (T : Nat → Nat → Int) (N k : Nat) (x : Nat → Int) : Int := sumK (fun i => x i * ct T N k i) N
theorem con_lin (T : Nat → Nat → Int) (N k : Nat) (a b : Int) (x y : Nat → Int) : con T N k (fun i => a * x i + b * y i) = a * con T N k x + b * con T N k y := by
  simp only [con]
  rw [← sumK_lin]
  exact sumK_congr N (fun i _ => by grind)
theorem con_lt (T : Nat → Nat → Int) {N k : Nat} (h : k < N) (x : Nat → Int) : con T N k x = x k := by
  simp only [con, ct]
  rw [sumK_congr (g := fun i => if i = k then x i else 0) N (fun i _ => by
    rw [if_pos h]
    by_cases e : i = k
    · rw [if_pos e, if_pos e]; omega
    · rw [if_neg e, if_neg e]; omega), sumK_ite x N h]
theorem con_ge (T : Nat → Nat → Int) (N j : Nat) (x : Nat → Int) : con T N (N + j) x = sumK (fun i => x i * T i j) N := by
  simp only [con, ct]
  exact sumK_congr N (fun i _ => by rw [if_neg (by omega), show N + j - N = j by omega])
theorem con_z (T : Nat → Nat → Int) (N k : Nat) {x : Nat → Int} (h : ∀ i, i < N → x i = 0) : con T N k x = 0 := by
  simp only [con]
  exact sumK_zero N (fun i hi => by rw [h i hi]; omega)
theorem con_sum (T : Nat → Nat → Int) (N k : Nat) (a : Nat → Int) (v : Nat → Nat → Int) : ∀ m, con T N k (fun i => sumK (fun j => a j * v j i) m) = sumK (fun j => a j * con T N k (v j)) m := by
  intro m
  induction m with
  | zero => exact con_z T N k (fun i _ => rfl)
  | succ m ih =>
    have h := con_lin T N k 1 (a m) (fun i => sumK (fun j => a j * v j i) m) (v m)
    have e : (fun i => sumK (fun j => a j * v j i) (m + 1)) = (fun i => 1 * sumK (fun j => a j * v j i) m + a m * v m i) := by
      funext i
      simp only [sumK]; omega
    rw [e, h, ih]
    simp only [sumK]; omega
def inP (T : Nat → Nat → Int) (N : Nat) (x : Nat → Int) : Prop := (∀ k, k < 2 * N → 0 ≤ con T N k x) ∧ 0 < sumK x N
/-! one after another, the first that isn't nought is above it -/
def lxg (N : Nat) (d : Nat → Int) : Prop := ∀ i, i < N → (∀ j, j < i → d j = 0) → 0 ≤ d i
theorem first_ex (d : Nat → Int) : ∀ N, (∀ i, i < N → d i = 0) ∨ ∃ i, i < N ∧ d i ≠ 0 ∧ ∀ j, j < i → d j = 0 := by
  intro N
  induction N with
  | zero => exact Or.inl (fun i h => absurd h (by omega))
  | succ N ih =>
    rcases ih with h | ⟨i, h1, h2, h3⟩
    · by_cases e : d N = 0
      · refine Or.inl (fun i hi => ?_)
        by_cases q : i = N
        · subst q; exact e
        · exact h i (by omega)
      · exact Or.inr ⟨N, by omega, e, h⟩
    · exact Or.inr ⟨i, by omega, h2, h3⟩
theorem lxg_or (N : Nat) (d : Nat → Int) : lxg N d ∨ lxg N (fun i => - d i) := by
  rcases first_ex d N with h | ⟨i, h1, h2, h3⟩
  · exact Or.inl (fun i hi _ => by rw [h i hi]; omega)
  · by_cases s : 0 ≤ d i
    · refine Or.inl (fun k hk hj => ?_)
      by_cases a : i < k
      · exact absurd (hj i a) h2
      · by_cases b : k = i
        · subst b; exact s
        · rw [h3 k (by omega)]; omega
    · refine Or.inr (fun k hk hj => ?_)
      by_cases a : i < k
      · exact absurd (show d i = 0 by have q : - d i = 0 := hj i a; omega) h2
      · by_cases b : k = i
        · subst b; show 0 ≤ - d k; omega
        · show 0 ≤ - d k; rw [h3 k (by omega)]; omega
theorem lxg_mul {N : Nat} {d : Nat → Int} {a : Int} (h0 : 0 ≤ a) (h : lxg N d) : lxg N (fun i => a * d i) := by
  intro i hi hj
  by_cases e : a = 0
  · show 0 ≤ a * d i; rw [e]; omega
  · exact Int.mul_nonneg h0 (h i hi (fun j hj' => by
      rcases Int.mul_eq_zero.mp (hj j hj') with q | q
      · exact absurd q e
      · exact q))
theorem lxg_add {N : Nat} {d e f : Nat → Int} (hf : ∀ i, i < N → f i = d i + e i) (h1 : lxg N d) (h2 : lxg N e) : lxg N f := by
  have z : ∀ n, n ≤ N → (∀ j, j < n → f j = 0) → ∀ j, j < n → d j = 0 ∧ e j = 0 := by
    intro n
    induction n with
    | zero => intro _ _ j hj; exact absurd hj (by omega)
    | succ n ih =>
      intro hn h j hj
      have i' := ih (by omega) (fun j hj => h j (by omega))
      by_cases q : j = n
      · subst q
        have a := h1 j (by omega) (fun j hj => (i' j hj).1)
        have b := h2 j (by omega) (fun j hj => (i' j hj).2)
        have c := h j (by omega)
        rw [hf j (by omega)] at c
        omega
      · exact i' j (by omega)
  intro i hi hj
  have q := z i (by omega) hj
  have a := h1 i hi (fun j hj => (q j hj).1)
  have b := h2 i hi (fun j hj => (q j hj).2)
  rw [hf i hi]; omega
theorem lxg_anti {N : Nat} {d e : Nat → Int} (h : ∀ i, i < N → e i = - d i) (h1 : lxg N d) (h2 : lxg N e) : ∀ i, i < N → d i = 0 := by
  rcases first_ex d N with z | ⟨i, a, b, c⟩
  · exact z
  · have x := h1 i a c
    have y := h2 i a (fun j hj => by rw [h j (by omega), c j hj]; rfl)
    rw [h i a] at y
    exact absurd (show d i = 0 by omega) b
/-- shares x are not behind shares y -/
def lge (N : Nat) (x y : Nat → Int) : Prop := lxg N (fun i => x i * sumK y N - y i * sumK x N)
theorem lge_refl (N : Nat) (x : Nat → Int) : lge N x x := fun i _ _ => by show 0 ≤ x i * sumK x N - x i * sumK x N; omega
theorem lxg_div {N : Nat} {d e : Nat → Int} {a : Int} (h0 : 0 < a) (h : ∀ i, i < N → e i = a * d i) (h1 : lxg N e) : lxg N d := by
  intro i hi hj
  have q := h1 i hi (fun j hj' => by rw [h j (by omega), hj j hj']; omega)
  rw [h i hi] at q
  exact Int.le_of_mul_le_mul_left (by rw [Int.mul_zero]; exact q) h0
theorem lge_trans {N : Nat} {x y z : Nat → Int} (hx : 0 < sumK x N) (hy : 0 < sumK y N) (hz : 0 < sumK z N) (h1 : lge N x y) (h2 : lge N y z) : lge N x z := by
  have a := lxg_mul (Int.le_of_lt hz) h1
  have b := lxg_mul (Int.le_of_lt hx) h2
  have c := lxg_add (f := fun i => sumK y N * (x i * sumK z N - z i * sumK x N)) (fun i _ => by grind) a b
  exact lxg_div hy (fun i _ => rfl) c
theorem lge_anti {N : Nat} {x y : Nat → Int} (h1 : lge N x y) (h2 : lge N y x) : ∀ i, i < N → x i * sumK y N = y i * sumK x N := by
  intro i hi
  have q := lxg_anti (d := fun i => x i * sumK y N - y i * sumK x N) (e := fun i => y i * sumK x N - x i * sumK y N) (fun i _ => by show _ = -_; omega) h1 h2 i hi
  have q : x i * sumK y N - y i * sumK x N = 0 := q
  omega
/-- bounds each of which tells apart what the ones before it don't -/
def fl (T : Nat → Nat → Int) (N : Nat) : List Nat → Prop
  | [] => True
  | k :: S => fl T N S ∧ k < 2 * N ∧ ¬ k ∈ S ∧ ∃ d : Nat → Int, sumK d N = 0 ∧ (∀ j, j ∈ S → con T N j d = 0) ∧ con T N k d ≠ 0
theorem fl_nd {T : Nat → Nat → Int} {N : Nat} : ∀ S, fl T N S → S.Nodup ∧ ∀ k, k ∈ S → k < 2 * N := by
  intro S
  induction S with
  | nil => intro _; exact ⟨List.nodup_nil, fun k h => absurd h (by simp)⟩
  | cons k S ih =>
    intro h
    have i' := ih h.1
    refine ⟨List.nodup_cons.mpr ⟨h.2.2.1, i'.1⟩, fun j hj => ?_⟩
    rcases List.mem_cons.mp hj with e | e
    · subst e; exact h.2.1
    · exact i'.2 j e
def free (N m : Nat) (v : Nat → Nat → Int) : Prop := ∀ a : Nat → Int, (∀ i, i < N → sumK (fun j => a j * v j i) m = 0) → ∀ j, j < m → a j = 0
theorem free_le {N m : Nat} {v : Nat → Nat → Int} (h : free N m v) : m ≤ N := by
  by_cases q : m ≤ N
  · exact q
  · obtain ⟨z, ⟨k, hk, kz⟩, _, z3⟩ := ker_ex m N v (List.range m) List.nodup_range (fun k hk => List.mem_range.mp hk) (by simp; omega)
    exact absurd (h z z3 k (List.mem_range.mp hk)) kz
theorem fl_len {T : Nat → Nat → Int} {N : Nat} : ∀ (S : List Nat), fl T N S → ∀ (m : Nat) (v : Nat → Nat → Int), free N m v → (∀ j, j < m → ∀ k, k ∈ S → con T N k (v j) = 0) → m + S.length ≤ N := by
  intro S
  induction S with
  | nil => intro _ m v h _; have := free_le h; simpa using this
  | cons k S ih =>
    intro hS m v h hk
    obtain ⟨hS', k2, kS, d, d0, dS, dk⟩ := hS
    have q := ih hS' (m + 1) (fun j => if j = m then d else v j) (by
      intro a ha
      have e : ∀ i, sumK (fun j => a j * (if j = m then d else v j) i) (m + 1) = sumK (fun j => a j * v j i) m + a m * d i := by
        intro i
        simp only [sumK, if_pos]
        rw [sumK_congr (g := fun j => a j * v j i) m (fun j hj => by rw [if_neg (by omega)])]
      have c := con_lin T N k 1 (a m) (fun i => sumK (fun j => a j * v j i) m) d
      rw [con_sum, sumK_zero m (fun j hj => by rw [hk j hj k List.mem_cons_self]; omega)] at c
      rw [con_z T N k (fun i hi => by have := ha i hi; rw [e i] at this; omega)] at c
      have am : a m = 0 := by
        have : a m * con T N k d = 0 := by omega
        rcases Int.mul_eq_zero.mp this with q | q
        · exact q
        · exact absurd q dk
      have r := h a (fun i hi => by have := ha i hi; rw [e i, am] at this; omega)
      intro j hj
      by_cases x : j = m
      · subst x; exact am
      · exact r j (by omega)) (by
      intro j hj k' hk'
      show con T N k' (if j = m then d else v j) = 0
      by_cases x : j = m
      · rw [if_pos x]; exact dS k' hk'
      · rw [if_neg x]; exact hk j (by omega) k' (List.mem_cons_of_mem _ hk'))
    simp only [List.length_cons]; omega
/-- a step along a way that the bounds S leave -/
theorem up_step {T : Nat → Nat → Int} {N : Nat} {S : List Nat} {y : Nat → Int} (hS : fl T N S) (hl : S.length + 1 < N) (hy : inP T N y) (ht : ∀ k, k ∈ S → con T N k y = 0) : ∃ (k : Nat) (x : Nat → Int), fl T N (k :: S) ∧ inP T N x ∧ (∀ j, j ∈ k :: S → con T N j x = 0) ∧ lge N x y := by
  obtain ⟨d0, ⟨k0, k0N, k0z⟩, _, dz⟩ := ker_ex N (S.length + 1) (fun i c => if c = 0 then 1 else ct T N (S.getD (c - 1) 0) i) (List.range N) List.nodup_range (fun k hk => List.mem_range.mp hk) (by simp; omega)
  have k0N := List.mem_range.mp k0N
  have s0 : sumK d0 N = 0 := by
    have h := dz 0 (by omega)
    rw [sumK_congr (g := d0) N (fun i _ => by rw [if_pos rfl]; omega)] at h
    exact h
  have sS : ∀ j, j ∈ S → con T N j d0 = 0 := by
    intro j hj
    obtain ⟨n, hn, e⟩ := List.getElem_of_mem hj
    have h := dz (n + 1) (by omega)
    rw [sumK_congr (g := fun i => d0 i * ct T N j i) N (fun i _ => by
      rw [if_neg (by omega), show n + 1 - 1 = n by omega, List.getD_eq_getElem?_getD, List.getElem?_eq_getElem hn]
      show d0 i * ct T N S[n] i = _
      rw [e])] at h
    exact h
  have hd : ∃ d : Nat → Int, (∃ k, k < N ∧ d k ≠ 0) ∧ sumK d N = 0 ∧ (∀ j, j ∈ S → con T N j d = 0) ∧ lxg N d := by
    rcases lxg_or N d0 with h | h
    · exact ⟨d0, ⟨k0, k0N, k0z⟩, s0, sS, h⟩
    · refine ⟨fun i => - d0 i, ⟨k0, k0N, by show - d0 k0 ≠ 0; omega⟩, by rw [sumK_neg, s0]; rfl, ?_, h⟩
      intro j hj
      have c := con_lin T N j (-1) 0 d0 d0
      rw [sS j hj] at c
      have e : (fun i => -1 * d0 i + 0 * d0 i) = (fun i => - d0 i) := by funext i; omega
      rw [e] at c
      omega
  obtain ⟨d, ⟨k1, k1N, k1z⟩, sd, dS, dl⟩ := hd
  have neg : ∃ i, i < N ∧ d i < 0 := by
    by_cases q : ∃ i, i < N ∧ d i < 0
    · exact q
    · exact absurd (sumK_nz N (fun k hk => by
        by_cases r : 0 ≤ d k
        · exact r
        · exact absurd ⟨k, hk, by omega⟩ q) sd k1 k1N) k1z
  obtain ⟨i1, i1N, i1d⟩ := neg
  obtain ⟨k, hk, hm⟩ := ratio_min (fun k => con T N k y) (fun k => - con T N k d) ((List.range (2 * N)).filter (fun k => decide (con T N k d < 0))) (by
    intro e
    have : i1 ∈ (List.range (2 * N)).filter (fun k => decide (con T N k d < 0)) := List.mem_filter.mpr ⟨List.mem_range.mpr (by omega), by rw [con_lt T i1N]; simpa using i1d⟩
    rw [e] at this
    exact absurd this (by simp)) (by
    intro x hx
    have : con T N x d < 0 := by simpa using (List.mem_filter.mp hx).2
    show 0 < - con T N x d
    omega)
  have k2 := List.mem_range.mp (List.mem_filter.mp hk).1
  have kd : con T N k d < 0 := by simpa using (List.mem_filter.mp hk).2
  have kS : ¬ k ∈ S := fun h => by have := dS k h; omega
  have cx : ∀ j, con T N j (fun i => (- con T N k d) * y i + con T N k y * d i) = (- con T N k d) * con T N j y + con T N k y * con T N j d := fun j => con_lin T N j _ _ y d
  have yk := hy.1 k k2
  have sx : sumK (fun i => (- con T N k d) * y i + con T N k y * d i) N = (- con T N k d) * sumK y N := by
    rw [sumK_lin, sd]; omega
  refine ⟨k, fun i => (- con T N k d) * y i + con T N k y * d i, ⟨hS, k2, kS, d, sd, dS, by omega⟩, ⟨?_, ?_⟩, ?_, ?_⟩
  · intro j hj
    rw [cx j]
    have yj := hy.1 j hj
    by_cases a : con T N j d < 0
    · have h := hm j (List.mem_filter.mpr ⟨List.mem_range.mpr hj, by simpa using a⟩)
      have h : con T N k y * (- con T N j d) ≤ con T N j y * (- con T N k d) := h
      grind
    · have p1 := Int.mul_nonneg (show (0 : Int) ≤ - con T N k d by omega) yj
      have p2 := Int.mul_nonneg yk (show (0 : Int) ≤ con T N j d by omega)
      omega
  · rw [sx]
    exact Int.mul_pos (by omega) hy.2
  · intro j hj
    rw [cx j]
    rcases List.mem_cons.mp hj with e | e
    · subst e; grind
    · rw [ht j e, dS j e]; omega
  · have m := lxg_mul (Int.mul_nonneg yk (Int.le_of_lt hy.2)) dl
    intro i hi hj
    have e : ∀ i, ((- con T N k d) * y i + con T N k y * d i) * sumK y N - y i * sumK (fun i => (- con T N k d) * y i + con T N k y * d i) N = con T N k y * sumK y N * d i := by
      intro i
      rw [sx]; grind
    show 0 ≤ ((- con T N k d) * y i + con T N k y * d i) * sumK y N - y i * sumK (fun i => (- con T N k d) * y i + con T N k y * d i) N
    rw [e i]
    exact m i hi (fun j hj' => by have q := hj j hj'; show con T N k y * sumK y N * d j = 0; rw [← e j]; exact q)
theorem up_all {T : Nat → Nat → Int} {N : Nat} {y : Nat → Int} (hy : inP T N y) : ∀ s, s + 1 ≤ N → ∃ (S : List Nat) (x : Nat → Int), S.length = s ∧ fl T N S ∧ inP T N x ∧ (∀ j, j ∈ S → con T N j x = 0) ∧ lge N x y := by
  intro s
  induction s with
  | zero => intro _; exact ⟨[], y, rfl, True.intro, hy, fun j h => absurd h (by simp), lge_refl N y⟩
  | succ s ih =>
    intro h
    obtain ⟨S, x, hl, hS, hx, ht, hg⟩ := ih (by omega)
    obtain ⟨k, x2, a, b, c, d⟩ := up_step hS (by omega) hx ht
    exact ⟨k :: S, x2, by rw [List.length_cons, hl], a, b, c, lge_trans b.2 hx.2 hy.2 d hg⟩
/-- nothing but nought sums to nought and meets the bounds S -/
def sole (T : Nat → Nat → Int) (N : Nat) (p : Nat → Prop) : Prop := ∀ z : Nat → Int, sumK z N = 0 → (∀ k, k < 2 * N → p k → con T N k z = 0) → ∀ i, i < N → z i = 0
theorem mix_up {T : Nat → Nat → Int} {N : Nat} (h0 : 0 < N) {y : Nat → Int} (hy : inP T N y) : ∃ (S : List Nat) (x : Nat → Int), S.Nodup ∧ (∀ k, k ∈ S → k < 2 * N) ∧ S.length = N - 1 ∧ sole T N (fun k => k ∈ S) ∧ inP T N x ∧ (∀ j, j ∈ S → con T N j x = 0) ∧ lge N x y := by
  obtain ⟨S, x, hl, hS, hx, ht, hg⟩ := up_all hy (N - 1) (by omega)
  have nd := fl_nd S hS
  refine ⟨S, x, nd.1, nd.2, hl, ?_, hx, ht, hg⟩
  intro z z0 zS
  by_cases q : ∃ i, i < N ∧ z i ≠ 0
  · obtain ⟨i0, i0N, i0z⟩ := q
    have := fl_len S hS 2 (fun j => if j = 0 then z else x) (by
      intro a ha
      have e : ∀ i, sumK (fun j => a j * (if j = 0 then z else x) i) 2 = a 0 * z i + a 1 * x i := by
        intro i
        simp [sumK]
      have s := sumK_lin (a 0) (a 1) z x N
      rw [sumK_zero N (fun i hi => by have := ha i hi; rw [e i] at this; exact this), z0] at s
      have a1 : a 1 = 0 := by
        have : a 1 * sumK x N = 0 := by omega
        rcases Int.mul_eq_zero.mp this with q | q
        · exact q
        · have := hx.2; omega
      have a0 : a 0 = 0 := by
        have := ha i0 i0N
        rw [e i0, a1] at this
        have : a 0 * z i0 = 0 := by omega
        rcases Int.mul_eq_zero.mp this with q | q
        · exact q
        · exact absurd q i0z
      intro j hj
      by_cases x : j = 0
      · subst x; exact a0
      · obtain rfl : j = 1 := by omega
        exact a1) (by
      intro j hj k hk
      show con T N k (if j = 0 then z else x) = 0
      by_cases e : j = 0
      · rw [if_pos e]; exact zS k (nd.2 k hk) hk
      · rw [if_neg e]; exact ht k hk)
    omega
  · intro i hi
    by_cases e : z i = 0
    · exact e
    · exact absurd ⟨i, hi, e⟩ q
