/-- the rows of the system as they lie in L are met by y for the sum s -/
def hom (L : ZM) (N : Nat) (y : Nat → Int) (s : Int) : Prop := ∀ r, r < N → sumK (fun i => L 104 (6 * r + i) * y i) N = L 104 (6 * r + 5) * s
theorem mul_bd {a b B : Int} (a0 : -B ≤ a) (a1 : a ≤ B) (b0 : -B ≤ b) (b1 : b ≤ B) : -(B * B) ≤ a * b ∧ a * b ≤ B * B := by
  have h1 := Int.mul_nonneg (show 0 ≤ B - a by omega) (show 0 ≤ B + b by omega)
  have h2 := Int.mul_nonneg (show 0 ≤ B + a by omega) (show 0 ≤ B - b by omega)
  have h3 := Int.mul_nonneg (show 0 ≤ B - a by omega) (show 0 ≤ B - b by omega)
  have h4 := Int.mul_nonneg (show 0 ≤ B + a by omega) (show 0 ≤ B + b by omega)
  constructor <;> grind
theorem swK_row (L : ZM) (a b r i : Nat) (hi : i < 6) : swK L a b 6 104 (6 * r + i) = if r = a then L 104 (6 * b + i) else if r = b then L 104 (6 * a + i) else L 104 (6 * r + i) := by
  simp only [swK]
  by_cases e : r = a
  · subst e; rw [if_pos ⟨trivial, by omega, by omega⟩, if_pos rfl]; congr 1; omega
  · rw [if_neg (by omega), if_neg e]
    by_cases e2 : r = b
    · subst e2; rw [if_pos ⟨trivial, by omega, by omega⟩, if_pos rfl]; congr 1; omega
    · rw [if_neg (by omega), if_neg e2]
theorem swK_out (L : ZM) (a b c j : Nat) (hc : c ≠ 104) : swK L a b 6 c j = L c j := by
  simp only [swK]
  rw [if_neg (by omega), if_neg (by omega)]
theorem hom_sw (L : ZM) {N a b : Nat} (ha : a < N) (hb : b < N) (h5 : N ≤ 5) (y : Nat → Int) (s : Int) : hom L N y s ↔ hom (swK L a b 6) N y s := by
  have row : ∀ r, sumK (fun i => swK L a b 6 104 (6 * r + i) * y i) N = (if r = a then sumK (fun i => L 104 (6 * b + i) * y i) N else if r = b then sumK (fun i => L 104 (6 * a + i) * y i) N else sumK (fun i => L 104 (6 * r + i) * y i) N) := by
    intro r
    by_cases e : r = a
    · rw [if_pos e]; exact sumK_congr N (fun i hi => by rw [swK_row L a b r i (by omega), if_pos e])
    · rw [if_neg e]
      by_cases e2 : r = b
      · rw [if_pos e2]; exact sumK_congr N (fun i hi => by rw [swK_row L a b r i (by omega), if_neg e, if_pos e2])
      · rw [if_neg e2]; exact sumK_congr N (fun i hi => by rw [swK_row L a b r i (by omega), if_neg e, if_neg e2])
  constructor
  · intro h r hr
    rw [row r, swK_row L a b r 5 (by omega)]
    by_cases e : r = a
    · rw [if_pos e, if_pos e]; exact h b hb
    · rw [if_neg e, if_neg e]
      by_cases e2 : r = b
      · rw [if_pos e2, if_pos e2]; exact h a ha
      · rw [if_neg e2, if_neg e2]; exact h r hr
  · intro h r hr
    by_cases e : r = a
    · subst e
      have q := h b hb
      rw [row b, swK_row L r b b 5 (by omega)] at q
      by_cases e2 : b = r
      · subst e2; rw [if_pos rfl, if_pos rfl] at q; exact q
      · rw [if_neg e2, if_neg e2, if_pos rfl, if_pos rfl] at q; exact q
    · by_cases e2 : r = b
      · subst e2
        have q := h a ha
        rw [row a, swK_row L a r a 5 (by omega), if_pos rfl, if_pos rfl] at q; exact q
      · have q := h r hr
        rw [row r, swK_row L a b r 5 (by omega), if_neg e, if_neg e, if_neg e2, if_neg e2] at q; exact q
theorem hom_cl {L L' : ZM} {N r b c : Nat} (h : clD L L' r b N c) (hr : r < N) (hb : b < N) (hrb : r ≠ b) (h5 : N ≤ 5) (hm : L 104 (6 * b + c) ≠ 0) (y : Nat → Int) (s : Int) : hom L N y s ↔ hom L' N y s := by
  obtain ⟨h1, g, g1, hg⟩ := h
  have ro : ∀ q, q ≠ r → ∀ i, i < 6 → L' 104 (6 * q + i) = L 104 (6 * q + i) := fun q hq i hi => h1 104 _ (by omega)
  have rs : ∀ q, q ≠ r → sumK (fun i => L' 104 (6 * q + i) * y i) N = sumK (fun i => L 104 (6 * q + i) * y i) N := fun q hq => sumK_congr N (fun i hi => by rw [ro q hq i (by omega)])
  have key : g * sumK (fun i => L' 104 (6 * r + i) * y i) N = L 104 (6 * b + c) * sumK (fun i => L 104 (6 * r + i) * y i) N + (- L 104 (6 * r + c)) * sumK (fun i => L 104 (6 * b + i) * y i) N := by
    rw [← sumK_lin, ← sumK_mul]
    refine sumK_congr N (fun i hi => ?_)
    have := hg i (by omega) (Or.inl hi)
    simp only [clW] at this
    rw [← Int.mul_assoc, this]; grind
  have k5 := hg 5 (by omega) (Or.inr rfl)
  simp only [clW] at k5
  constructor
  · intro H q hq
    by_cases e : q = r
    · subst e
      have a := H q hq
      have bb := H b hb
      rw [a, bb] at key
      exact Int.eq_of_mul_eq_mul_left (show g ≠ 0 by omega) (by rw [key]; grind)
    · rw [rs q e, ro q e 5 (by omega)]; exact H q hq
  · intro H q hq
    by_cases e : q = r
    · subst e
      have a := H q hq
      have bb := H b hb
      rw [rs b (by omega), ro b (by omega) 5 (by omega)] at bb
      rw [a, bb] at key
      exact Int.eq_of_mul_eq_mul_left hm (by grind)
    · have := H q hq
      rw [rs q e, ro q e 5 (by omega)] at this; exact this
def sB (c : Nat) : Int := if c = 0 then 2 else if c = 1 then 4 else if c = 2 then 32 else if c = 3 then 2048 else if c = 4 then 8388608 else 140737488355328
theorem sB_b (c : Nat) : 2 ≤ sB c ∧ sB c ≤ 140737488355328 := by
  unfold sB
  split; omega
  split; omega
  split; omega
  split; omega
  split; omega
  omega
theorem sB_s {c : Nat} (h : c < 5) : sB c ≤ sB (c + 1) ∧ (0 < c → 2 * (sB c * sB c) = sB (c + 1)) := by
  rcases (show c = 0 ∨ c = 1 ∨ c = 2 ∨ c = 3 ∨ c = 4 by omega) with e | e | e | e | e <;> subst e <;> decide
/-- the columns before c are done -/
def slI (L0 L : ZM) (N c : Nat) : Prop := (∀ k j, k ≠ 104 → L k j = L0 k j) ∧ (∀ y s, hom L0 N y s ↔ hom L N y s) ∧ (∀ k, k < c → L 104 (6 * k + k) ≠ 0 ∧ ∀ r, r < N → r ≠ k → L 104 (6 * r + k) = 0) ∧ (∀ r, r < N → ∀ i, i < N ∨ i = 5 → - sB c ≤ L 104 (6 * r + i) ∧ L 104 (6 * r + i) ≤ sB c) ∧ (c = 0 → ∀ i, i < N ∨ i = 5 → L 104 i = 1)
/-- column c is done in the rows before r -/
def slR (L0 L : ZM) (N c r : Nat) : Prop := (∀ k j, k ≠ 104 → L k j = L0 k j) ∧ (∀ y s, hom L0 N y s ↔ hom L N y s) ∧ (∀ k, k < c → L 104 (6 * k + k) ≠ 0 ∧ ∀ r, r < N → r ≠ k → L 104 (6 * r + k) = 0) ∧ L 104 (6 * c + c) ≠ 0 ∧ (∀ q, q < r → q ≠ c → L 104 (6 * q + c) = 0) ∧ (∀ r, r < N → ∀ i, i < N ∨ i = 5 → - sB (c + 1) ≤ L 104 (6 * r + i) ∧ L 104 (6 * r + i) ≤ sB (c + 1)) ∧ (∀ q, q < N → r ≤ q ∨ q = c → ∀ i, i < N ∨ i = 5 → - sB c ≤ L 104 (6 * q + i) ∧ L 104 (6 * q + i) ≤ sB c) ∧ (c = 0 → ∀ i, i < N ∨ i = 5 → L 104 i = 1)
theorem slR_0 {L0 L : ZM} {N c p : Nat} (h : slI L0 L N c) (h5 : N ≤ 5) (hc : c < N) (hp : c ≤ p) (hpN : p < N) (hz : ∀ r, c ≤ r → r < p → L 104 (6 * r + c) = 0) (hn : L 104 (6 * p + c) ≠ 0) : slR L0 (swK L c p 6) N c 0 := by
  obtain ⟨h1, h2, h3, h4, h6⟩ := h
  have b4 : ∀ r, r < N → ∀ i, i < N ∨ i = 5 → - sB c ≤ swK L c p 6 104 (6 * r + i) ∧ swK L c p 6 104 (6 * r + i) ≤ sB c := by
    intro r hr i hi
    rw [swK_row L c p r i (by omega)]
    by_cases e : r = c
    · rw [if_pos e]; exact h4 p hpN i hi
    · rw [if_neg e]
      by_cases e2 : r = p
      · rw [if_pos e2]; exact h4 c hc i hi
      · rw [if_neg e2]; exact h4 r hr i hi
  have sb := (sB_s (show c < 5 by omega)).1
  refine ⟨fun k j hk => by rw [swK_out L c p k j hk]; exact h1 k j hk, fun y s => (h2 y s).trans (hom_sw L hc hpN h5 y s), fun k hk => ⟨?_, fun r hr hrk => ?_⟩, ?_, fun q hq => absurd hq (by omega), fun r hr i hi => ?_, fun q hq _ i hi => b4 q hq i hi, fun e i hi => ?_⟩
  · rw [swK_row L c p k k (by omega), if_neg (by omega), if_neg (by omega)]; exact (h3 k hk).1
  · rw [swK_row L c p r k (by omega)]
    by_cases e : r = c
    · rw [if_pos e]; exact (h3 k hk).2 p hpN (by omega)
    · rw [if_neg e]
      by_cases e2 : r = p
      · rw [if_pos e2]; exact (h3 k hk).2 c hc (by omega)
      · rw [if_neg e2]; exact (h3 k hk).2 r hr hrk
  · rw [swK_row L c p c c (by omega), if_pos rfl]; exact hn
  · have := b4 r hr i hi; omega
  · subst e
    have p0 : p = 0 := by
      by_cases q : p = 0
      · exact q
      · have a := hz 0 (by omega) (by omega)
        have b := h6 rfl 0 (Or.inl (by omega))
        simp at a
        omega
    subst p0
    have q := swK_row L 0 0 0 i (by omega)
    rw [if_pos rfl] at q
    simp only [Nat.mul_zero, Nat.zero_add] at q
    rw [q]; exact h6 rfl i hi
theorem slR_sk {L0 L : ZM} {N c r : Nat} (h : slR L0 L N c r) (hz : r = c ∨ L 104 (6 * r + c) = 0) : slR L0 L N c (r + 1) := by
  obtain ⟨h1, h2, h3, h4, h6, h7, h8, h9⟩ := h
  refine ⟨h1, h2, h3, h4, fun q hq hc => ?_, h7, fun q hq ho i hi => h8 q hq (by omega) i hi, h9⟩
  by_cases e : q = r
  · subst e
    rcases hz with z | z
    · exact absurd z hc
    · exact z
  · exact h6 q (by omega) hc
theorem slR_W {L0 L : ZM} {N c r : Nat} (h : slR L0 L N c r) (h5 : N ≤ 5) (hc : c < N) (hr : r < N) (i : Nat) (hi : i < N ∨ i = 5) : - sB (c + 1) ≤ clW L r c (L 104 (6 * c + c)) (L 104 (6 * r + c)) i ∧ clW L r c (L 104 (6 * c + c)) (L 104 (6 * r + c)) i ≤ sB (c + 1) := by
  obtain ⟨h1, h2, h3, h4, h6, h7, h8, h9⟩ := h
  have a := h8 r hr (Or.inl (Nat.le_refl _)) i hi
  have b := h8 c hc (Or.inr rfl) c (Or.inl hc)
  have d := h8 c hc (Or.inr rfl) i hi
  have e := h8 r hr (Or.inl (Nat.le_refl _)) c (Or.inl hc)
  simp only [clW]
  by_cases c0 : c = 0
  · subst c0
    have o := h9 rfl
    have o0 := o 0 (Or.inl hc)
    have oi := o i hi
    simp only [Nat.mul_zero, Nat.zero_add] at *
    rw [o0, oi]
    have : sB 0 = 2 := rfl
    have : sB 1 = 4 := rfl
    omega
  · have p := mul_bd a.1 a.2 b.1 b.2
    have q := mul_bd d.1 d.2 e.1 e.2
    have s := (sB_s (show c < 5 by omega)).2 (by omega)
    omega
theorem slR_cl {L0 L L' : ZM} {N c r : Nat} (h : slR L0 L N c r) (h5 : N ≤ 5) (hc : c < N) (hr : r < N) (hrc : r ≠ c) (hd : clD L L' r c N c) : slR L0 L' N c (r + 1) := by
  have hW := slR_W h h5 hc hr
  obtain ⟨h1, h2, h3, h4, h6, h7, h8, h9⟩ := h
  have hom2 := hom_cl hd hr hc hrc h5 h4
  obtain ⟨d1, g, g1, hg⟩ := hd
  have ro : ∀ q, q ≠ r → ∀ i, i < 6 → L' 104 (6 * q + i) = L 104 (6 * q + i) := fun q hq i hi => d1 104 _ (by omega)
  have cz : ∀ i, i < N ∨ i = 5 → clW L r c (L 104 (6 * c + c)) (L 104 (6 * r + c)) i = 0 → L' 104 (6 * r + i) = 0 := by
    intro i hi z
    have := hg i (by omega) hi
    rw [z] at this
    rcases Int.mul_eq_zero.mp this with q | q
    · omega
    · exact q
  refine ⟨fun k j hk => by rw [d1 k j (by omega)]; exact h1 k j hk, fun y s => (h2 y s).trans (hom2 y s), fun k hk => ⟨?_, fun q hq hqk => ?_⟩, ?_, fun q hq hqc => ?_, fun q hq i hi => ?_, fun q hq ho i hi => ?_, fun e i hi => ?_⟩
  · by_cases e : k = r
    · subst e
      intro z
      have := hg k (by omega) (Or.inl hr)
      rw [z] at this
      simp only [clW] at this
      rw [(h3 k hk).2 c hc (by omega)] at this
      have t : L 104 (6 * k + k) * L 104 (6 * c + c) = 0 := by omega
      rcases Int.mul_eq_zero.mp t with x | x
      · exact (h3 k hk).1 x
      · exact h4 x
    · rw [ro k e k (by omega)]; exact (h3 k hk).1
  · by_cases e : q = r
    · subst e
      refine cz k (Or.inl (by omega)) ?_
      simp only [clW]
      rw [(h3 k hk).2 q hq hqk, (h3 k hk).2 c hc (by omega)]; omega
    · rw [ro q e k (by omega)]; exact (h3 k hk).2 q hq hqk
  · rw [ro c (by omega) c (by omega)]; exact h4
  · by_cases e : q = r
    · subst e
      refine cz c (Or.inl hc) ?_
      simp only [clW]; grind
    · rw [ro q e c (by omega)]; exact h6 q (by omega) hqc
  · by_cases e : q = r
    · subst e
      have a := hg i (by omega) hi
      have b := hW i hi
      rw [← a] at b
      have n0 := (sB_b (c + 1)).1
      constructor
      · by_cases z : 0 ≤ L' 104 (6 * q + i)
        · omega
        · have := Int.mul_nonneg (show 0 ≤ g - 1 by omega) (show 0 ≤ - L' 104 (6 * q + i) by omega)
          grind
      · by_cases z : 0 ≤ L' 104 (6 * q + i)
        · have := Int.mul_nonneg (show 0 ≤ g - 1 by omega) z
          grind
        · omega
    · rw [ro q e i (by omega)]; exact h7 q hq i hi
  · rw [ro q (by omega) i (by omega)]; exact h8 q hq (by omega) i hi
  · subst e
    have := d1 104 i (by omega)
    rw [this]; exact h9 rfl i hi
theorem slR_end {L0 L : ZM} {N c : Nat} (h : slR L0 L N c N) (hc : c < N) : slI L0 L N (c + 1) := by
  obtain ⟨h1, h2, h3, h4, h6, h7, h8, h9⟩ := h
  refine ⟨h1, h2, fun k hk => ?_, h7, fun e => absurd e (by omega)⟩
  by_cases e : k = c
  · subst e; exact ⟨h4, fun r hr hk => h6 r hr hk⟩
  · exact h3 k (by omega)
theorem sl_sing {L0 L : ZM} {N c : Nat} (h : slI L0 L N c) (hc : c < N) (hz : ∀ r, c ≤ r → r < N → L 104 (6 * r + c) = 0) : ∃ y : Nat → Int, (∃ i, i < N ∧ y i ≠ 0) ∧ hom L0 N y 0 := by
  obtain ⟨z, ⟨k, k1, k2⟩, z2, z3⟩ := ker_ex N c (fun i r => L 104 (6 * r + i)) (List.range (c + 1)) List.nodup_range (fun k hk => by have := List.mem_range.mp hk; omega) (by simp)
  have k1 := List.mem_range.mp k1
  refine ⟨z, ⟨k, by omega, k2⟩, (h.2.1 z 0).mpr ?_⟩
  intro r hr
  rw [Int.mul_zero]
  by_cases e : r < c
  · rw [sumK_congr (g := fun i => z i * L 104 (6 * r + i)) N (fun i _ => Int.mul_comm _ _)]; exact z3 r e
  · refine sumK_zero N (fun i hi => ?_)
    by_cases a : i < c
    · rw [(h.2.2.1 i a).2 r hr (by omega)]; omega
    · by_cases b : i = c
      · subst b; rw [hz r (by omega) hr]; omega
      · rw [z2 i (fun q => by have := List.mem_range.mp q; omega)]; omega
/-- the first k fractions are told -/
def slF (L L2 : ZM) (k : Nat) : Prop := (∀ c j, ¬ (c = 105 ∨ c = 106) → L2 c j = L c j) ∧ ∀ q, q < k → 0 < L2 106 q ∧ Int.gcd (L2 105 q) (L2 106 q) = 1 ∧ ∃ t : Int, t ≠ 0 ∧ L 104 (6 * q + 5) = t * L2 105 q ∧ L 104 (6 * q + q) = t * L2 106 q
theorem slF_put {L L2 : ZM} {k : Nat} {t u w : Int} (h : slF L L2 k) (ht : t ≠ 0) (hu : L 104 (6 * k + 5) = t * u) (hw : L 104 (6 * k + k) = t * w) (hp : 0 < w) (hg : Int.gcd u w = 1) : slF L (z_up (z_up L2 105 k u) 106 k w) (k + 1) := by
  refine ⟨fun c j hc => ?_, fun q hq => ?_⟩
  · rw [z_up_k (by omega), z_up_k (by omega)]; exact h.1 c j hc
  · by_cases e : q = k
    · subst e
      rw [z_up_s, z_up_k (by omega), z_up_s]
      exact ⟨hp, hg, t, ht, hu, hw⟩
    · have x1 : z_up L2 105 k u 105 q = L2 105 q := z_up_j e
      rw [z_up_j e, z_up_k (by omega), z_up_k (by omega), x1]
      exact h.2 q (by omega)
theorem fr_red {a b t : Int} (hb : b ≠ 0) (ht : (t = ((Int.gcd a b : Nat) : Int) ∧ 0 < b) ∨ (t = - ((Int.gcd a b : Nat) : Int) ∧ b < 0)) : t ≠ 0 ∧ a = t * (a / t) ∧ b = t * (b / t) ∧ 0 < b / t ∧ Int.gcd (a / t) (b / t) = 1 := by
  have g0 : 0 < Int.gcd a b := Int.gcd_pos_of_ne_zero_right _ hb
  have t0 : t ≠ 0 := by omega
  have da : ((Int.gcd a b : Nat) : Int) ∣ a := Int.gcd_dvd_left ..
  have db : ((Int.gcd a b : Nat) : Int) ∣ b := Int.gcd_dvd_right ..
  have ta : t ∣ a := by
    rcases ht with ⟨e, -⟩ | ⟨e, -⟩
    · rw [e]; exact da
    · rw [e]; exact Int.neg_dvd.mpr da
  have tb : t ∣ b := by
    rcases ht with ⟨e, -⟩ | ⟨e, -⟩
    · rw [e]; exact db
    · rw [e]; exact Int.neg_dvd.mpr db
  have ea : a = t * (a / t) := (Int.mul_ediv_cancel' ta).symm
  have eb : b = t * (b / t) := (Int.mul_ediv_cancel' tb).symm
  have pos : 0 < b / t := by
    have n0 : b / t ≠ 0 := by intro z; rw [z] at eb; omega
    by_cases q : 0 < b / t
    · exact q
    · rcases ht with ⟨e, s⟩ | ⟨e, s⟩
      · have := Int.mul_nonneg (show 0 ≤ t by omega) (show 0 ≤ - (b / t) by omega)
        grind
      · have := Int.mul_nonneg (show 0 ≤ - t by omega) (show 0 ≤ - (b / t) by omega)
        grind
  refine ⟨t0, ea, eb, pos, ?_⟩
  have q : Int.gcd (t * (a / t)) (t * (b / t)) = t.natAbs * Int.gcd (a / t) (b / t) := Int.gcd_mul_left ..
  rw [← ea, ← eb] at q
  have tn : t.natAbs = Int.gcd a b := by omega
  rw [tn] at q
  exact Nat.eq_of_mul_eq_mul_left g0 (by omega)
theorem slF_end {L0 L L2 : ZM} {N : Nat} (h : slI L0 L N N) (hF : slF L L2 N) (y : Nat → Int) (s : Int) : hom L0 N y s ↔ ∀ q, q < N → L2 106 q * y q = L2 105 q * s := by
  have one : ∀ q, q < N → sumK (fun i => L 104 (6 * q + i) * y i) N = L 104 (6 * q + q) * y q := by
    intro q hq
    rw [sumK_congr (g := fun i => if i = q then L 104 (6 * q + i) * y i else 0) N (fun i hi => by
      by_cases e : i = q
      · rw [if_pos e]
      · rw [if_neg e, (h.2.2.1 i hi).2 q hq (by omega)]; omega), sumK_ite (fun i => L 104 (6 * q + i) * y i) N hq]
  rw [h.2.1 y s]
  constructor
  · intro H q hq
    obtain ⟨-, -, t, t0, e1, e2⟩ := hF.2 q hq
    have := H q hq
    rw [one q hq, e1, e2] at this
    exact Int.eq_of_mul_eq_mul_left t0 (by rw [← Int.mul_assoc, ← Int.mul_assoc]; exact this)
  · intro H q hq
    obtain ⟨-, -, t, t0, e1, e2⟩ := hF.2 q hq
    rw [one q hq, e1, e2, Int.mul_assoc, H q hq, Int.mul_assoc]
def slP (ML L : ZM) (N : Nat) (r : Int) : Prop := (∀ c j, c < 104 ∨ 106 < c → L c j = ML c j) ∧ ((r = 1 ∧ (∀ q, q < N → 0 < L 106 q ∧ Int.gcd (L 105 q) (L 106 q) = 1) ∧ ∀ y s, hom ML N y s ↔ ∀ q, q < N → L 106 q * y q = L 105 q * s) ∨ (r = 0 ∧ ∃ y : Nat → Int, (∃ i, i < N ∧ y i ≠ 0) ∧ hom ML N y 0))
set_option maxRecDepth 100000 in
set_option maxHeartbeats 4000000 in
theorem l_X9_solve_r {X : VX} {Q : Nat → Nat} {MI ML : ZM} (K : VK X cX9_solve RX9 8 (some .boolean) 2 59 0 0) (N : Nat) (hN : MI 90 4 = N) (h1 : 1 ≤ N) (h5 : N ≤ 5) (c : Nat) (hc : c < N) (x : Int) (kk : ∀ (L : ZM) (y : Int), slR ML L N c N → V X (0, 0) 110 Q z_rf MI L 102 [(3, .int (iI y)), (2, .int (iI x)), (1, .int (iI (c : Int))), (0, .ref (Q 90))] []) : ∀ (n r : Nat) (L : ZM) (y : Int), y = r → slR ML L N c r → r ≤ N → N < r + n → V X (0, 0) 110 Q z_rf MI L 60 [(3, .int (iI y)), (2, .int (iI x)), (1, .int (iI (c : Int))), (0, .ref (Q 90))] [] := by
  intro n
  induction n with
  | zero => intro r L y hy G hr hn; exact absurd hn (by omega)
  | succ n ih =>
    intro r L y hy G hr hn
    refine v_iload_n K 0 dX9_solve_60 rfl rfl ?_
    refine v_aload_n K 3 dX9_solve_61 rfl rfl ?_
    refine v_geti K ff_X9_79 (by decide) rfl rfl dX9_solve_62 ?_
    refine v_eqi ((N : Int)) (hN) ?_
    refine v_icmp_ge K 102 ⟨by omega, by omega⟩ ⟨by omega, by omega⟩ dX9_solve_65 (by decide) (fun h65 => ?_) (fun h65 => ?_)
    · obtain rfl : r = N := by omega
      exact kk L y G
    · refine v_iload_n K 0 dX9_solve_68 rfl rfl ?_
      refine v_iload_n K 2 dX9_solve_69 rfl rfl ?_
      refine v_icmp_eq K 96 ⟨by omega, by omega⟩ ⟨by omega, by omega⟩ dX9_solve_70 (by decide) (fun h70 => ?_) (fun h70 => ?_)
      · refine v_iinc K 0 (fun q9 => [(3, .int (iI q9)), (2, .int (iI x)), (1, .int (iI (c : Int))), (0, .ref (Q 90))]) dX9_solve_96 rfl (by decide) (fun _ => rfl) (fun w hw => ?_)
        refine v_goto K 60 dX9_solve_99 (by decide) ?_
        first | exact ih (r + 1) _ w (by omega) (slR_sk G (Or.inl (by omega))) (by omega) (by omega) | exact ih (r + 1) _ w (by omega) (slR_sk G (Or.inr h85)) (by omega) (by omega) | exact ih (r + 1) _ w (by omega) (slR_cl G h5 hc (by omega) (by omega) h93) (by omega) (by omega)
      · refine v_aload_n K 3 dX9_solve_73 rfl rfl ?_
        refine v_getr K ff_X9_53 (by decide) rfl rfl rfl dX9_solve_74 ?_
        refine v_bipush K dX9_solve_77 (by decide) ?_
        refine v_iload_n K 0 dX9_solve_79 rfl rfl ?_
        refine v_imul K dX9_solve_80 ?_
        refine v_iload_n K 2 dX9_solve_81 rfl rfl ?_
        refine v_iadd K dX9_solve_82 ?_
        refine v_lald K (6 * r + c) (by decide) rfl (by omega) (by show _ < 30; omega) dX9_solve_83 ?_
        refine v_lconst K 0 dX9_solve_84 rfl ?_
        refine v_lcmp_eq K 96 (by have := G.2.2.2.2.2.1 r (by omega) c (Or.inl hc); have := sB_b (c + 1); exact rl9 (by omega) (by omega)) (rl9 (by omega) (by omega)) dX9_solve_85 dX9_solve_86 (by decide) (fun h85 => ?_) (fun h85 => ?_)
        · refine v_iinc K 0 (fun q9 => [(3, .int (iI q9)), (2, .int (iI x)), (1, .int (iI (c : Int))), (0, .ref (Q 90))]) dX9_solve_96 rfl (by decide) (fun _ => rfl) (fun w hw => ?_)
          refine v_goto K 60 dX9_solve_99 (by decide) ?_
          first | exact ih (r + 1) _ w (by omega) (slR_sk G (Or.inl (by omega))) (by omega) (by omega) | exact ih (r + 1) _ w (by omega) (slR_sk G (Or.inr h85)) (by omega) (by omega) | exact ih (r + 1) _ w (by omega) (slR_cl G h5 hc (by omega) (by omega) h93) (by omega) (by omega)
        · refine v_aload_n K 3 dX9_solve_89 rfl rfl ?_
          refine v_iload_n K 0 dX9_solve_90 rfl rfl ?_
          refine v_iload_n K 2 dX9_solve_91 rfl rfl ?_
          refine v_iload_n K 2 dX9_solve_92 rfl rfl ?_
          refine v_cVv K (c_X9_clearRow N hN h1 h5 r c c (by omega) (by omega) (by omega) (by omega) (fun i _ hi => by have := slR_W G h5 hc (by omega) i hi; have := sB_b (c + 1); omega) _ _ _ hy rfl rfl) rfl fc_X9_151 wm_X9_clearRow ws_X9_clearRow (by decide) 9 rfl (by decide) rfl rfl (by decide) (Nat.le_of_ble_eq_true rfl) dX9_solve_93 (fun M93 L93 h93 => ?_)
          obtain ⟨hm93, h93⟩ := h93
          subst M93
          refine v_iinc K 0 (fun q9 => [(3, .int (iI q9)), (2, .int (iI x)), (1, .int (iI (c : Int))), (0, .ref (Q 90))]) dX9_solve_96 rfl (by decide) (fun _ => rfl) (fun w hw => ?_)
          refine v_goto K 60 dX9_solve_99 (by decide) ?_
          first | exact ih (r + 1) _ w (by omega) (slR_sk G (Or.inl (by omega))) (by omega) (by omega) | exact ih (r + 1) _ w (by omega) (slR_sk G (Or.inr h85)) (by omega) (by omega) | exact ih (r + 1) _ w (by omega) (slR_cl G h5 hc (by omega) (by omega) h93) (by omega) (by omega)
set_option maxRecDepth 100000 in
set_option maxHeartbeats 4000000 in
theorem l_X9_solve_p {X : VX} {Q : Nat → Nat} {MI ML : ZM} (K : VK X cX9_solve RX9 8 (some .boolean) 2 59 0 0) (N : Nat) (hN : MI 90 4 = N) (h1 : 1 ≤ N) (h5 : N ≤ 5) (c : Nat) (hc : c < N) (L : ZM) (G : slI ML L N c) (kk : ∀ p : Nat, c ≤ p → p ≤ N → (∀ r, c ≤ r → r < p → L 104 (6 * r + c) = 0) → (p < N → L 104 (6 * p + c) ≠ 0) → V X (0, 0) 110 Q z_rf MI L 42 [(2, .int (iI (p : Int))), (1, .int (iI (c : Int))), (0, .ref (Q 90))] []) : ∀ (n p : Nat), c ≤ p → p ≤ N → (∀ r, c ≤ r → r < p → L 104 (6 * r + c) = 0) → N < p + n → V X (0, 0) 110 Q z_rf MI L 12 [(2, .int (iI (p : Int))), (1, .int (iI (c : Int))), (0, .ref (Q 90))] [] := by
  intro n
  induction n with
  | zero => intro p hcp hp hz hn; exact absurd hn (by omega)
  | succ n ih =>
    intro p hcp hp hz hn
    refine v_iload_n K 0 dX9_solve_12 rfl rfl ?_
    refine v_aload_n K 2 dX9_solve_13 rfl rfl ?_
    refine v_geti K ff_X9_79 (by decide) rfl rfl dX9_solve_14 ?_
    refine v_eqi ((N : Int)) (hN) ?_
    refine v_icmp_ge K 42 ⟨by omega, by omega⟩ ⟨by omega, by omega⟩ dX9_solve_17 (by decide) (fun h17 => ?_) (fun h17 => ?_)
    · first | exact kk p hcp hp hz (fun h => absurd h (by omega)) | exact kk p hcp hp hz (fun _ => h32)
    · refine v_aload_n K 2 dX9_solve_20 rfl rfl ?_
      refine v_getr K ff_X9_53 (by decide) rfl rfl rfl dX9_solve_21 ?_
      refine v_bipush K dX9_solve_24 (by decide) ?_
      refine v_iload_n K 0 dX9_solve_26 rfl rfl ?_
      refine v_imul K dX9_solve_27 ?_
      refine v_iload_n K 1 dX9_solve_28 rfl rfl ?_
      refine v_iadd K dX9_solve_29 ?_
      refine v_lald K (6 * p + c) (by decide) rfl (by omega) (by show _ < 30; omega) dX9_solve_30 ?_
      refine v_lconst K 0 dX9_solve_31 rfl ?_
      refine v_lcmp_ne K 42 (by have := G.2.2.2.1 p (by omega) c (Or.inl hc); have := sB_b c; exact rl9 (by omega) (by omega)) (rl9 (by omega) (by omega)) dX9_solve_32 dX9_solve_33 (by decide) (fun h32 => ?_) (fun h32 => ?_)
      · first | exact kk p hcp hp hz (fun h => absurd h (by omega)) | exact kk p hcp hp hz (fun _ => h32)
      · refine v_iinc K 0 (fun q9 => [(2, .int (iI q9)), (1, .int (iI (c : Int))), (0, .ref (Q 90))]) dX9_solve_36 rfl (by decide) (fun _ => rfl) (fun w hw => ?_)
        refine v_goto K 12 dX9_solve_39 (by decide) ?_
        obtain rfl : w = ((p + 1 : Nat) : Int) := by omega
        exact ih (p + 1) (by omega) (by omega) (fun r a b => by by_cases e : r = p; (subst e; exact h32); exact hz r a (by omega)) (by omega)
set_option maxRecDepth 100000 in
set_option maxHeartbeats 4000000 in
theorem l_X9_solve_f {X : VX} {Q : Nat → Nat} {MI ML : ZM} (K : VK X cX9_solve RX9 8 (some .boolean) 2 59 0 0) (N : Nat) (hN : MI 90 4 = N) (h1 : 1 ≤ N) (h5 : N ≤ 5) (L : ZM) (G : slI ML L N N) (E : VE X 0 0 110 Q (zq Q (zI fun r M L => M = MI ∧ slP ML L N r))) : ∀ (n k : Nat) (L2 : ZM), slF L L2 k → k ≤ N → N < k + n → V X (0, 0) 110 Q z_rf MI L2 110 [(1, .int (iI (k : Int))), (0, .ref (Q 90))] [] := by
  intro n
  induction n with
  | zero => intro k L2 F hk hn; exact absurd hn (by omega)
  | succ n ih =>
    intro k L2 F hk hn
    refine v_iload_n K 0 dX9_solve_110 rfl rfl ?_
    refine v_aload_n K 1 dX9_solve_111 rfl rfl ?_
    refine v_geti K ff_X9_79 (by decide) rfl rfl dX9_solve_112 ?_
    refine v_eqi ((N : Int)) (hN) ?_
    refine v_icmp_ge K 193 ⟨by omega, by omega⟩ ⟨by omega, by omega⟩ dX9_solve_115 (by decide) (fun h115 => ?_) (fun h115 => ?_)
    · obtain rfl : k = N := by omega
      refine v_iconst K dX9_solve_193 ?_
      exact v_rz K E (Or.inr rfl) dX9_solve_194 ⟨rfl, fun c j h => by rw [F.1 c j (by omega)]; exact G.1 c j (by omega), Or.inl ⟨rfl, fun q hq => ⟨(F.2 q hq).1, (F.2 q hq).2.1⟩, slF_end G F⟩⟩
    · have ga := G.2.2.2.1 k (by omega) 5 (Or.inr rfl)
      have gb := G.2.2.2.1 k (by omega) k (Or.inl (by omega))
      have gn := (G.2.2.1 k (by omega)).1
      have sb := sB_b N
      refine v_aload_n K 1 dX9_solve_118 rfl rfl ?_
      refine v_getr K ff_X9_53 (by decide) rfl rfl rfl dX9_solve_119 ?_
      refine v_bipush K dX9_solve_122 (by decide) ?_
      refine v_iload_n K 0 dX9_solve_124 rfl rfl ?_
      refine v_imul K dX9_solve_125 ?_
      refine v_iconst K dX9_solve_126 ?_
      refine v_iadd K dX9_solve_127 ?_
      refine v_lald K (6 * k + 5) (by decide) rfl (by omega) (by show _ < 30; omega) dX9_solve_128 ?_
      refine v_eql (L 104 (6 * k + 5)) (F.1 104 _ (by omega)) ?_
      refine v_lstore_n K (fun q9 => [(2, .long (lJ q9)), (1, .int (iI (k : Int))), (0, .ref (Q 90))]) dX9_solve_129 rfl (by decide) (fun _ => rfl) (fun a ha => ?_)
      subst ha
      refine v_aload_n K 2 dX9_solve_130 rfl rfl ?_
      refine v_getr K ff_X9_53 (by decide) rfl rfl rfl dX9_solve_131 ?_
      refine v_bipush K dX9_solve_134 (by decide) ?_
      refine v_iload_n K 1 dX9_solve_136 rfl rfl ?_
      refine v_imul K dX9_solve_137 ?_
      refine v_iload_n K 1 dX9_solve_138 rfl rfl ?_
      refine v_iadd K dX9_solve_139 ?_
      refine v_lald K (6 * k + k) (by decide) rfl (by omega) (by show _ < 30; omega) dX9_solve_140 ?_
      refine v_eql (L 104 (6 * k + k)) (F.1 104 _ (by omega)) ?_
      refine v_lstore K (fun q9 => [(4, .long (lJ q9)), (2, .long (lJ (L 104 (6 * k + 5)))), (1, .int (iI (k : Int))), (0, .ref (Q 90))]) dX9_solve_141 (by decide) (fun _ => rfl) (fun b hb => ?_)
      subst hb
      refine v_lload_n K 1 dX9_solve_143 rfl rfl ?_
      refine v_lload K 0 dX9_solve_144 rfl ?_
      refine v_cSl K (c_X9_divisor (L 104 (6 * k + 5)) (L 104 (6 * k + k)) (by omega) (by omega) (by omega) (by omega)) rfl fc_X9_144 wt_X9_divisor rfl (by decide) (Nat.le_of_ble_eq_true rfl) dX9_solve_146 (fun r146 M146 L146 h146 => ?_)
      obtain ⟨hm146, hl146, hr146⟩ := h146
      subst M146 L146
      refine v_lload K 0 dX9_solve_149 rfl ?_
      refine v_lconst K 0 dX9_solve_151 rfl ?_
      refine v_lcmp_ge K 162 (rl9 (by omega) (by omega)) (rl9 (by omega) (by omega)) dX9_solve_152 dX9_solve_153 (by decide) (fun h152 => ?_) (fun h152 => ?_)
      · refine v_lconst K 1 dX9_solve_162 rfl ?_
        refine v_lmul K dX9_solve_163 ?_
        refine v_lstore K (fun q9 => [(6, .long (lJ q9)), (4, .long (lJ (L 104 (6 * k + k)))), (2, .long (lJ (L 104 (6 * k + 5)))), (1, .int (iI (k : Int))), (0, .ref (Q 90))]) dX9_solve_164 (by decide) (fun _ => rfl) (fun t ht => ?_)
        have R := fr_red (a := L 104 (6 * k + 5)) (t := t) gn (by first | exact Or.inl ⟨by omega, by omega⟩ | exact Or.inr ⟨by omega, by omega⟩)
        have tb : -140737488355328 ≤ t ∧ t ≤ 140737488355328 := by
          have q : Int.gcd (L 104 (6 * k + 5)) (L 104 (6 * k + k)) ≤ (L 104 (6 * k + k)).natAbs := Nat.gcd_le_right _ (by omega)
          omega
        refine v_aload_n K 4 dX9_solve_166 rfl rfl ?_
        refine v_getr K ff_X9_57 (by decide) rfl rfl rfl dX9_solve_167 ?_
        refine v_iload_n K 3 dX9_solve_170 rfl rfl ?_
        refine v_lload_n K 2 dX9_solve_171 rfl rfl ?_
        refine v_lload K 0 dX9_solve_172 rfl ?_
        refine v_ldiv K (L 104 (6 * k + 5) / t) (lJ_ne (rl9 (by omega) (by omega)) R.1) (lJ_divx R.2.1 (rl9 (by omega) (by omega)) (rl9 (by omega) (by omega)) R.1) dX9_solve_174 ?_
        refine v_last K (k) (by decide) rfl (by omega) (by show _ < 5; omega) dX9_solve_175 ?_
        refine v_aload_n K 4 dX9_solve_176 rfl rfl ?_
        refine v_getr K ff_X9_60 (by decide) rfl rfl rfl dX9_solve_177 ?_
        refine v_iload_n K 3 dX9_solve_180 rfl rfl ?_
        refine v_lload K 1 dX9_solve_181 rfl ?_
        refine v_lload K 0 dX9_solve_183 rfl ?_
        refine v_ldiv K (L 104 (6 * k + k) / t) (lJ_ne (rl9 (by omega) (by omega)) R.1) (lJ_divx R.2.2.1 (rl9 (by omega) (by omega)) (rl9 (by omega) (by omega)) R.1) dX9_solve_185 ?_
        refine v_last K (k) (by decide) rfl (by omega) (by show _ < 5; omega) dX9_solve_186 ?_
        refine v_iinc K 3 (fun q9 => [(1, .int (iI q9)), (6, .long (lJ t)), (4, .long (lJ (L 104 (6 * k + k)))), (2, .long (lJ (L 104 (6 * k + 5)))), (0, .ref (Q 90))]) dX9_solve_187 rfl (by decide) (fun _ => rfl) (fun w hw => ?_)
        refine v_goto K 110 dX9_solve_190 (by decide) ?_
        obtain rfl : w = ((k + 1 : Nat) : Int) := by omega
        refine v_sub K [0, 4] rfl ?_
        exact ih (k + 1) _ (slF_put F R.1 R.2.1 R.2.2.1 R.2.2.2.1 R.2.2.2.2) (by omega) (by omega)
      · refine v_ldc2 K (-1) ck_X9_155 rfl dX9_solve_156 ?_
        refine v_goto K 163 dX9_solve_159 (by decide) ?_
        refine v_lmul K dX9_solve_163 ?_
        refine v_lstore K (fun q9 => [(6, .long (lJ q9)), (4, .long (lJ (L 104 (6 * k + k)))), (2, .long (lJ (L 104 (6 * k + 5)))), (1, .int (iI (k : Int))), (0, .ref (Q 90))]) dX9_solve_164 (by decide) (fun _ => rfl) (fun t ht => ?_)
        have R := fr_red (a := L 104 (6 * k + 5)) (t := t) gn (by first | exact Or.inl ⟨by omega, by omega⟩ | exact Or.inr ⟨by omega, by omega⟩)
        have tb : -140737488355328 ≤ t ∧ t ≤ 140737488355328 := by
          have q : Int.gcd (L 104 (6 * k + 5)) (L 104 (6 * k + k)) ≤ (L 104 (6 * k + k)).natAbs := Nat.gcd_le_right _ (by omega)
          omega
        refine v_aload_n K 4 dX9_solve_166 rfl rfl ?_
        refine v_getr K ff_X9_57 (by decide) rfl rfl rfl dX9_solve_167 ?_
        refine v_iload_n K 3 dX9_solve_170 rfl rfl ?_
        refine v_lload_n K 2 dX9_solve_171 rfl rfl ?_
        refine v_lload K 0 dX9_solve_172 rfl ?_
        refine v_ldiv K (L 104 (6 * k + 5) / t) (lJ_ne (rl9 (by omega) (by omega)) R.1) (lJ_divx R.2.1 (rl9 (by omega) (by omega)) (rl9 (by omega) (by omega)) R.1) dX9_solve_174 ?_
        refine v_last K (k) (by decide) rfl (by omega) (by show _ < 5; omega) dX9_solve_175 ?_
        refine v_aload_n K 4 dX9_solve_176 rfl rfl ?_
        refine v_getr K ff_X9_60 (by decide) rfl rfl rfl dX9_solve_177 ?_
        refine v_iload_n K 3 dX9_solve_180 rfl rfl ?_
        refine v_lload K 1 dX9_solve_181 rfl ?_
        refine v_lload K 0 dX9_solve_183 rfl ?_
        refine v_ldiv K (L 104 (6 * k + k) / t) (lJ_ne (rl9 (by omega) (by omega)) R.1) (lJ_divx R.2.2.1 (rl9 (by omega) (by omega)) (rl9 (by omega) (by omega)) R.1) dX9_solve_185 ?_
        refine v_last K (k) (by decide) rfl (by omega) (by show _ < 5; omega) dX9_solve_186 ?_
        refine v_iinc K 3 (fun q9 => [(1, .int (iI q9)), (6, .long (lJ t)), (4, .long (lJ (L 104 (6 * k + k)))), (2, .long (lJ (L 104 (6 * k + 5)))), (0, .ref (Q 90))]) dX9_solve_187 rfl (by decide) (fun _ => rfl) (fun w hw => ?_)
        refine v_goto K 110 dX9_solve_190 (by decide) ?_
        obtain rfl : w = ((k + 1 : Nat) : Int) := by omega
        refine v_sub K [0, 4] rfl ?_
        exact ih (k + 1) _ (slF_put F R.1 R.2.1 R.2.2.1 R.2.2.2.1 R.2.2.2.2) (by omega) (by omega)
set_option maxRecDepth 100000 in
set_option maxHeartbeats 4000000 in
theorem l_X9_solve {X : VX} {Q : Nat → Nat} {MI ML : ZM} (K : VK X cX9_solve RX9 8 (some .boolean) 2 59 0 0) (N : Nat) (hN : MI 90 4 = N) (h1 : 1 ≤ N) (h5 : N ≤ 5) (E : VE X 0 0 110 Q (zq Q (zI fun r M L => M = MI ∧ slP ML L N r))) : ∀ (n c : Nat) (L : ZM), slI ML L N c → c ≤ N → N < c + n → V X (0, 0) 110 Q z_rf MI L 2 [(1, .int (iI (c : Int))), (0, .ref (Q 90))] [] := by
  intro n
  induction n with
  | zero => intro c L G hc hn; exact absurd hn (by omega)
  | succ n ih =>
    intro c L G hc hn
    refine v_iload_n K 0 dX9_solve_2 rfl rfl ?_
    refine v_aload_n K 1 dX9_solve_3 rfl rfl ?_
    refine v_geti K ff_X9_79 (by decide) rfl rfl dX9_solve_4 ?_
    refine v_eqi ((N : Int)) (hN) ?_
    refine v_icmp_ge K 108 ⟨by omega, by omega⟩ ⟨by omega, by omega⟩ dX9_solve_7 (by decide) (fun h7 => ?_) (fun h7 => ?_)
    · obtain rfl : c = N := by omega
      refine v_iconst K dX9_solve_108 ?_
      refine v_istore_n K (fun q9 => [(1, .int (iI q9)), (0, .ref (Q 90))]) dX9_solve_109 rfl (by decide) (fun _ => rfl) (fun k0 hk0 => ?_)
      subst hk0
      exact l_X9_solve_f K _ hN h1 h5 L G E 6 0 L ⟨fun _ _ _ => rfl, fun q hq => absurd hq (by omega)⟩ (by omega) (by omega)
    · refine v_iload_n K 0 dX9_solve_10 rfl rfl ?_
      refine v_istore_n K (fun q9 => [(2, .int (iI q9)), (1, .int (iI (c : Int))), (0, .ref (Q 90))]) dX9_solve_11 rfl (by decide) (fun _ => rfl) (fun p0 hp0 => ?_)
      subst hp0
      refine l_X9_solve_p K N hN h1 h5 c (by omega) L G (fun p hcp hpN hz hp => ?_) (N + 1) c (Nat.le_refl _) (by omega) (fun r a b => absurd b (by omega)) (by omega)
      refine v_iload_n K 0 dX9_solve_42 rfl rfl ?_
      refine v_aload_n K 2 dX9_solve_43 rfl rfl ?_
      refine v_geti K ff_X9_79 (by decide) rfl rfl dX9_solve_44 ?_
      refine v_eqi ((N : Int)) (hN) ?_
      refine v_icmp_ne K 52 ⟨by omega, by omega⟩ ⟨by omega, by omega⟩ dX9_solve_47 (by decide) (fun h47 => ?_) (fun h47 => ?_)
      · refine v_aload_n K 2 dX9_solve_52 rfl rfl ?_
        refine v_iload_n K 1 dX9_solve_53 rfl rfl ?_
        refine v_iload_n K 0 dX9_solve_54 rfl rfl ?_
        refine v_cVv K (c_X9_changeRows c p (by omega) (by omega) _ _ rfl rfl) rfl fc_X9_148 wm_X9_changeRows ws_X9_changeRows (by decide) 9 rfl (by decide) rfl rfl (by decide) (Nat.le_of_ble_eq_true rfl) dX9_solve_55 (fun M55 L55 h55 => ?_)
        obtain ⟨hm55, hl55⟩ := h55
        subst M55 L55
        have R0 := slR_0 G h5 (by omega) hcp (by omega) hz (hp (by omega))
        refine v_iconst K dX9_solve_58 ?_
        refine v_istore_n K (fun q9 => [(3, .int (iI q9)), (2, .int (iI (p : Int))), (1, .int (iI (c : Int))), (0, .ref (Q 90))]) dX9_solve_59 rfl (by decide) (fun _ => rfl) (fun y hy => ?_)
        refine l_X9_solve_r K N hN h1 h5 c (by omega) _ (fun L y G => ?_) 6 0 _ y hy R0 (by omega) (by omega)
        refine v_iinc K 2 (fun q9 => [(1, .int (iI q9)), (3, .int (iI y)), (2, .int (iI (p : Int))), (0, .ref (Q 90))]) dX9_solve_102 rfl (by decide) (fun _ => rfl) (fun w hw => ?_)
        refine v_goto K 2 dX9_solve_105 (by decide) ?_
        obtain rfl : w = ((c + 1 : Nat) : Int) := by omega
        refine v_sub K [0, 3] rfl ?_
        exact ih (c + 1) _ (slR_end G (by omega)) (by omega) (by omega)
      · obtain rfl : p = N := by omega
        refine v_iconst K dX9_solve_50 ?_
        exact v_rz K E (Or.inl rfl) dX9_solve_51 ⟨rfl, fun k j h => G.1 k j (by omega), Or.inr ⟨rfl, sl_sing G (by omega) hz⟩⟩
set_option maxRecDepth 100000 in
set_option maxHeartbeats 4000000 in
theorem c_X9_solve {l : Launch} {D : va_G} {Z : ZC} {Q : Nat → Nat} {MI ML : ZM} (N : Nat) (hN : MI 90 4 = N) (h1 : 1 ≤ N) (h5 : N ≤ 5) (h0 : ∀ i, i < N ∨ i = 5 → ML 104 i = 1) (hb : ∀ r, r < N → ∀ i, i < N ∨ i = 5 → -2 ≤ ML 104 (6 * r + i) ∧ ML 104 (6 * r + i) ≤ 2) : C_X9_solve l D Z Q [.ref (Q 90)] MI ML (zI fun r M L => M = MI ∧ slP ML L N r) := by
  refine CM.of (by decide +kernel) (Nat.le_of_ble_eq_true rfl) ?_
  intro X K E _ _ _ _
  show V X (0, 0) 110 Q z_rf MI ML 0 [(0, .ref (Q 90))] []
  refine v_iconst K dX9_solve_0 ?_
  refine v_istore_n K (fun q9 => [(1, .int (iI q9)), (0, .ref (Q 90))]) dX9_solve_1 rfl (by decide) (fun _ => rfl) (fun y hy => ?_)
  subst hy
  exact l_X9_solve K N hN h1 h5 E 6 0 ML ⟨fun _ _ _ => rfl, fun _ _ => Iff.rfl, fun k h => absurd h (by omega), hb, fun _ => h0⟩ (by omega) (by omega)
