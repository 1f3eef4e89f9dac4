/-! the least of fractions -/
theorem ratio_min {α : Type} (p q : α → Int) : ∀ l : List α, l ≠ [] → (∀ x, x ∈ l → 0 < q x) → ∃ x, x ∈ l ∧ ∀ y, y ∈ l → p x * q y ≤ p y * q x := by
  intro l
  induction l with
  | nil => intro h; exact absurd rfl h
  | cons a l ih =>
    intro _ hq
    by_cases e : l = []
    · subst e
      refine ⟨a, List.mem_cons_self, fun y hy => ?_⟩
      rcases List.mem_cons.mp hy with h | h
      · subst h; exact Int.le_refl _
      · exact absurd h (by simp)
    · obtain ⟨b, hb, hm⟩ := ih e (fun x hx => hq x (List.mem_cons_of_mem _ hx))
      have qa := hq a List.mem_cons_self
      have qb := hq b (List.mem_cons_of_mem _ hb)
      by_cases c : p a * q b ≤ p b * q a
      · refine ⟨a, List.mem_cons_self, fun y hy => ?_⟩
        rcases List.mem_cons.mp hy with h | h
        · subst h; exact Int.le_refl _
        · have qy := hq y hy
          have h1 := hm y h
          have x := Int.mul_le_mul_of_nonneg_right c (Int.le_of_lt qy)
          have x2 := Int.mul_le_mul_of_nonneg_right h1 (Int.le_of_lt qa)
          have z : p a * q y * q b ≤ p y * q a * q b := by grind
          exact Int.le_of_mul_le_mul_right z qb
      · refine ⟨b, List.mem_cons_of_mem _ hb, fun y hy => ?_⟩
        rcases List.mem_cons.mp hy with h | h
        · subst h; omega
        · exact hm y h
theorem bnd_ex {α : Type} (a : α → Int) : ∀ l : List α, ∃ K : Int, 0 < K ∧ ∀ x, x ∈ l → a x < K := by
  intro l
  induction l with
  | nil => exact ⟨1, by omega, fun x h => absurd h (by simp)⟩
  | cons b l ih =>
    obtain ⟨K, h0, h⟩ := ih
    by_cases c : a b < K
    · refine ⟨K, h0, fun x hx => ?_⟩
      rcases List.mem_cons.mp hx with e | e
      · subst e; exact c
      · exact h x e
    · refine ⟨a b + 1, by omega, fun x hx => ?_⟩
      rcases List.mem_cons.mp hx with e | e
      · subst e; omega
      · have := h x e; omega
/-! either some sum of vectors is nowhere below nought, or a weighing is below nought at all -/
theorem ville (col : Nat → (Nat → Int) → Int) (hl : ∀ j a b x y, col j (fun i => a * x i + b * y i) = a * col j x + b * col j y) : ∀ (m : Nat) (P : (Nat → Int) → Prop), (∀ a b x y, 0 < a → 0 ≤ b → P x → P y → P (fun i => a * x i + b * y i)) → ∀ (G : List (Nat → Int)), G ≠ [] → (∀ g, g ∈ G → P g) → (∃ x, P x ∧ ∀ j, j < m → 0 ≤ col j x) ∨ (∃ y : Nat → Int, (∀ j, 0 ≤ y j) ∧ ∀ g, g ∈ G → sumK (fun j => y j * col j g) m < 0) := by
  intro m
  induction m with
  | zero =>
    intro P _ G hG hP
    match G, hG with
    | g :: G, _ => exact Or.inl ⟨g, hP g List.mem_cons_self, fun j hj => absurd hj (by omega)⟩
  | succ m ih =>
    intro P hc G hG hP
    by_cases h1 : ∃ g, g ∈ G ∧ 0 ≤ col m g
    · obtain ⟨g0, g0G, g0c⟩ := h1
      have g0m : g0 ∈ G.filter (fun g => decide (0 ≤ col m g)) := List.mem_filter.mpr ⟨g0G, by simpa using g0c⟩
      have q := ih (fun x => P x ∧ 0 ≤ col m x) (by
        intro a b x y ha hb hx hy
        refine ⟨hc a b x y ha hb hx.1 hy.1, ?_⟩
        rw [hl]
        have := Int.mul_nonneg (Int.le_of_lt ha) hx.2
        have := Int.mul_nonneg hb hy.2
        omega) (G.filter (fun g => decide (0 ≤ col m g)) ++ (G.filter (fun g => decide (0 ≤ col m g))).flatMap (fun g => (G.filter (fun h => decide (col m h < 0))).map (fun h => fun i => (- col m h) * g i + col m g * h i))) (by
          intro e
          rw [List.append_eq_nil_iff] at e
          rw [e.1] at g0m
          exact absurd g0m (by simp)) (by
        intro g hg
        rcases List.mem_append.mp hg with h | h
        · have h := List.mem_filter.mp h
          exact ⟨hP g h.1, by simpa using h.2⟩
        · obtain ⟨a, ha, h⟩ := List.mem_flatMap.mp h
          obtain ⟨b, hb, h⟩ := List.mem_map.mp h
          have ha := List.mem_filter.mp ha
          have hb := List.mem_filter.mp hb
          have a0 : 0 ≤ col m a := by simpa using ha.2
          have b0 : col m b < 0 := by simpa using hb.2
          subst h
          refine ⟨hc _ _ a b (by omega) a0 (hP a ha.1) (hP b hb.1), ?_⟩
          rw [hl]
          have : (- col m b) * col m a + col m a * col m b = 0 := by grind
          omega)
      rcases q with ⟨x, hx, hj⟩ | ⟨y, y0, hy⟩
      · refine Or.inl ⟨x, hx.1, fun j hj' => ?_⟩
        by_cases e : j = m
        · subst e; exact hx.2
        · exact hj j (by omega)
      · have bl : ∀ a b x x', sumK (fun j => y j * col j (fun i => a * x i + b * x' i)) m = a * sumK (fun j => y j * col j x) m + b * sumK (fun j => y j * col j x') m := by
          intro a b x x'
          rw [← sumK_lin]
          exact sumK_congr m (fun j _ => by rw [hl]; grind)
        have f1 : ∀ g, g ∈ G → 0 ≤ col m g → sumK (fun j => y j * col j g) m < 0 := by
          intro g hg h
          exact hy g (List.mem_append_left _ (List.mem_filter.mpr ⟨hg, by simpa using h⟩))
        have f2 : ∀ g h, g ∈ G → h ∈ G → 0 ≤ col m g → col m h < 0 → (- col m h) * sumK (fun j => y j * col j g) m + col m g * sumK (fun j => y j * col j h) m < 0 := by
          intro g h hg hh h1 h2
          rw [← bl]
          exact hy _ (List.mem_append_right _ (List.mem_flatMap.mpr ⟨g, List.mem_filter.mpr ⟨hg, by simpa using h1⟩, List.mem_map.mpr ⟨h, List.mem_filter.mpr ⟨hh, by simpa using h2⟩, rfl⟩⟩))
        have sm : ∀ (s t : Int) (g : Nat → Int), sumK (fun j => (if j = m then t else s * y j) * col j g) (m + 1) = s * sumK (fun j => y j * col j g) m + t * col m g := by
          intro s t g
          simp only [sumK, if_pos]
          rw [sumK_congr (g := fun j => s * (y j * col j g)) m (fun j hj => by rw [if_neg (by omega)]; grind), sumK_mul]
          
        by_cases h2 : ∃ h, h ∈ G ∧ col m h < 0 ∧ 0 ≤ sumK (fun j => y j * col j h) m
        · obtain ⟨h0, h0G, h0a, h0b⟩ := h2
          obtain ⟨h, hh, hmax⟩ := ratio_min (fun h => - sumK (fun j => y j * col j h) m) (fun h => - col m h) (G.filter (fun h => decide (col m h < 0 ∧ 0 ≤ sumK (fun j => y j * col j h) m))) (by
            intro e
            have : h0 ∈ G.filter (fun h => decide (col m h < 0 ∧ 0 ≤ sumK (fun j => y j * col j h) m)) := List.mem_filter.mpr ⟨h0G, by simpa using ⟨h0a, h0b⟩⟩
            rw [e] at this
            exact absurd this (by simp)) (by
            intro x hx
            have hx : col m x < 0 ∧ 0 ≤ sumK (fun j => y j * col j x) m := by simpa using (List.mem_filter.mp hx).2
            show 0 < - col m x
            omega)
          have hh1 := (List.mem_filter.mp hh).1
          have hh2 : col m h < 0 ∧ 0 ≤ sumK (fun j => y j * col j h) m := by simpa using (List.mem_filter.mp hh).2
          obtain ⟨K, K0, hK⟩ := bnd_ex (col m) G
          refine Or.inr ⟨fun j => if j = m then K * sumK (fun j => y j * col j h) m + 1 else (K * (- col m h)) * y j, ?_, ?_⟩
          · intro j
            show 0 ≤ (if j = m then K * sumK (fun j => y j * col j h) m + 1 else (K * (- col m h)) * y j)
            by_cases e : j = m
            · rw [if_pos e]
              have := Int.mul_nonneg (Int.le_of_lt K0) hh2.2
              omega
            · rw [if_neg e]
              exact Int.mul_nonneg (Int.mul_nonneg (Int.le_of_lt K0) (by omega)) (y0 j)
          · intro g hg
            rw [sm]
            have e : K * (- col m h) * sumK (fun j => y j * col j g) m + (K * sumK (fun j => y j * col j h) m + 1) * col m g = K * ((- col m h) * sumK (fun j => y j * col j g) m + col m g * sumK (fun j => y j * col j h) m) + col m g := by grind
            rw [e]
            by_cases a : 0 ≤ col m g
            · have w := f2 g h hg hh1 a hh2.1
              have k := hK g hg
              have : K * ((- col m h) * sumK (fun j => y j * col j g) m + col m g * sumK (fun j => y j * col j h) m) ≤ K * (-1) := Int.mul_le_mul_of_nonneg_left (by omega) (Int.le_of_lt K0)
              omega
            · have w : (- col m h) * sumK (fun j => y j * col j g) m + col m g * sumK (fun j => y j * col j h) m ≤ 0 := by
                by_cases b : 0 ≤ sumK (fun j => y j * col j g) m
                · have := hmax g (List.mem_filter.mpr ⟨hg, by simpa using (show col m g < 0 ∧ 0 ≤ sumK (fun j => y j * col j g) m from ⟨by omega, b⟩)⟩)
                  grind
                · have p1 := Int.mul_nonneg (show (0 : Int) ≤ - col m h by omega) (show (0 : Int) ≤ - sumK (fun j => y j * col j g) m by omega)
                  have p2 := Int.mul_nonneg (show (0 : Int) ≤ - col m g by omega) hh2.2
                  grind
              have : K * ((- col m h) * sumK (fun j => y j * col j g) m + col m g * sumK (fun j => y j * col j h) m) ≤ K * 0 := Int.mul_le_mul_of_nonneg_left w (Int.le_of_lt K0)
              omega
        · refine Or.inr ⟨fun j => if j = m then 0 else 1 * y j, ?_, ?_⟩
          · intro j
            show 0 ≤ (if j = m then 0 else 1 * y j)
            by_cases e : j = m
            · rw [if_pos e]; omega
            · rw [if_neg e]; have := y0 j; omega
          · intro g hg
            rw [sm 1 0 g]
            by_cases a : 0 ≤ col m g
            · have := f1 g hg a; omega
            · by_cases b : 0 ≤ sumK (fun j => y j * col j g) m
              · exact absurd ⟨g, hg, by omega, b⟩ h2
              · omega
    · refine Or.inr ⟨fun j => if j = m then 1 else 0, ?_, ?_⟩
      · intro j
        show (0 : Int) ≤ (if j = m then 1 else 0)
        by_cases e : j = m
        · rw [if_pos e]; omega
        · rw [if_neg e]; omega
      · intro g hg
        simp only [sumK, if_pos]
        rw [sumK_zero m (fun j hj => by rw [if_neg (by omega)]; omega)]
        by_cases a : 0 ≤ col m g
        · exact absurd ⟨g, hg, a⟩ h1
        · omega
/-! a mix that no one beats is there -/
theorem mix_ex (T : Nat → Nat → Int) (N : Nat) (h0 : 0 < N) (ha : ∀ i j, i < N → j < N → T i j = - T j i) : ∃ x : Nat → Int, (∀ i, i < N → 0 ≤ x i) ∧ 0 < sumK x N ∧ ∀ j, j < N → 0 ≤ sumK (fun i => x i * T i j) N := by
  have q := ville (fun j x => sumK (fun i => x i * T i j) N) (by
    intro j a b x y
    rw [← sumK_lin]
    exact sumK_congr N (fun i _ => by grind)) N (fun x => (∀ i, i < N → 0 ≤ x i) ∧ 0 < sumK x N) (by
    intro a b x y a0 b0 hx hy
    refine ⟨fun i hi => ?_, ?_⟩
    · have := Int.mul_nonneg (Int.le_of_lt a0) (hx.1 i hi)
      have := Int.mul_nonneg b0 (hy.1 i hi)
      show 0 ≤ a * x i + b * y i
      omega
    · rw [sumK_lin]
      have := Int.mul_pos a0 hx.2
      have := Int.mul_nonneg b0 (Int.le_of_lt hy.2)
      omega) ((List.range N).map (fun k => fun i => if i = k then 1 else 0)) (by
      intro e
      have := congrArg List.length e
      simp at this
      omega) (by
      intro g hg
      obtain ⟨k, hk, e⟩ := List.mem_map.mp hg
      have hk := List.mem_range.mp hk
      subst e
      refine ⟨fun i hi => ?_, ?_⟩
      · show (0 : Int) ≤ (if i = k then 1 else 0)
        by_cases e : i = k
        · rw [if_pos e]; omega
        · rw [if_neg e]; omega
      · rw [sumK_ite (fun _ => 1) N hk]; omega)
  rcases q with ⟨x, hx, hj⟩ | ⟨y, y0, hy⟩
  · exact ⟨x, hx.1, hx.2, hj⟩
  · have hk : ∀ k, k < N → sumK (fun j => y j * T k j) N < 0 := by
      intro k hk
      have h := hy _ (List.mem_map.mpr ⟨k, List.mem_range.mpr hk, rfl⟩)
      rw [sumK_congr (g := fun j => y j * T k j) N (fun j hj => by
        show y j * sumK (fun i => (if i = k then 1 else 0) * T i j) N = y j * T k j
        rw [sumK_congr (g := fun i => if i = k then T i j else 0) N (fun i hi => by
          by_cases e : i = k
          · rw [if_pos e, if_pos e]; omega
          · rw [if_neg e, if_neg e]; omega), sumK_ite (fun i => T i j) N hk])] at h
      exact h
    refine ⟨y, fun i _ => y0 i, ?_, ?_⟩
    · have n0 := sumK_nn N (fun k _ => y0 k)
      by_cases e : sumK y N = 0
      · have z := sumK_nz N (fun k _ => y0 k) e
        have := hk 0 h0
        rw [sumK_zero N (fun j hj => by rw [z j hj]; omega)] at this
        omega
      · omega
    · intro j hj
      have h := hk j hj
      rw [sumK_congr (g := fun i => - (y i * T j i)) N (fun i hi => by rw [ha i j hi hj]; grind), sumK_neg]
      omega
