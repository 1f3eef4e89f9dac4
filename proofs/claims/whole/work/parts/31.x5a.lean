set_option maxRecDepth 100000 in
set_option maxHeartbeats 4000000 in
theorem c_J6_compare_7cf53 {l : Launch} {D : va_G} {Z : ZC} {Q : Nat → Nat} {MI ML : ZM} (a b : Int) (ha : rg a) (hb : rg b) : C_J6_compare_7cf53 l D Z Q [.int (iI a), .int (iI b)] MI ML (zI fun r M L => M = MI ∧ L = ML ∧ r = if b < a then 1 else if a < b then -1 else 0) := by
  refine CM.of (by decide +kernel) (Nat.le_of_ble_eq_true rfl) ?_
  intro X K E _ _ _ _
  show V X (0, 0) 110 Q z_rf MI ML 0 [(0, .int (iI a)), (1, .int (iI b))] []
  refine v_iload_n K 0 dJ6_compare_7cf53_0 rfl rfl ?_
  refine v_iload_n K 1 dJ6_compare_7cf53_1 rfl rfl ?_
  refine v_icmp_ge K 9 ha hb dJ6_compare_7cf53_2 (by decide) (fun h2 => ?_) (fun h2 => ?_)
  · refine v_iload_n K 0 dJ6_compare_7cf53_9 rfl rfl ?_
    refine v_iload_n K 1 dJ6_compare_7cf53_10 rfl rfl ?_
    refine v_icmp_ne K 18 ha hb dJ6_compare_7cf53_11 (by decide) (fun h11 => ?_) (fun h11 => ?_)
    · refine v_iconst K dJ6_compare_7cf53_18 ?_
      exact v_ri K E dJ6_compare_7cf53_19 ⟨rfl, rfl, by split <;> (try split) <;> omega⟩
    · refine v_iconst K dJ6_compare_7cf53_14 ?_
      refine v_goto K 19 dJ6_compare_7cf53_15 (by decide) ?_
      exact v_ri K E dJ6_compare_7cf53_19 ⟨rfl, rfl, by split <;> (try split) <;> omega⟩
  · refine v_iconst K dJ6_compare_7cf53_5 ?_
    refine v_goto K 19 dJ6_compare_7cf53_6 (by decide) ?_
    exact v_ri K E dJ6_compare_7cf53_19 ⟨rfl, rfl, by split <;> (try split) <;> omega⟩
/-- p is a plan's cell -/
def isPl (p : Nat) : Prop := 31 ≤ p ∧ p + 3 < 90 ∧ z_kd p = 5 ∧ (z_rf p 0 = some (p + 1) ∧ z_rf p 1 = some (p + 2) ∧ z_rf p 2 = some (p + 3)) ∧ (z_kd (p + 1) = 10 ∧ z_ln (p + 1) = 10) ∧ (z_kd (p + 2) = 10 ∧ z_ln (p + 2) = 13) ∧ z_kd (p + 3) = 10 ∧ z_ln (p + 3) = 10
theorem isPl_now {a : Nat} (h : a < 5) : isPl (31 + 4 * a) := by
  rcases (show a = 0 ∨ a = 1 ∨ a = 2 ∨ a = 3 ∨ a = 4 by omega) with rfl | rfl | rfl | rfl | rfl <;> (unfold isPl; decide +kernel)
theorem isPl_trial {a : Nat} (h : a < 5) : isPl (63 + 4 * a) := by
  rcases (show a = 0 ∨ a = 1 ∨ a = 2 ∨ a = 3 ∨ a = 4 by omega) with rfl | rfl | rfl | rfl | rfl <;> (unfold isPl; decide +kernel)
theorem isPl_less : isPl 85 := by unfold isPl; decide +kernel
/-- how often c stands among the first n of f -/
def cnt (f : Nat → Int) (c : Nat) : Nat → Int
  | 0 => 0
  | n + 1 => cnt f c n + (if f n = (c : Int) then 1 else 0)
theorem cnt_congr {f g : Nat → Int} {c : Nat} : ∀ n, (∀ i, i < n → f i = g i) → cnt f c n = cnt g c n := by
  intro n
  induction n with
  | zero => intro _; rfl
  | succ n ih => intro h; simp only [cnt]; rw [ih (fun i hi => h i (by omega)), h n (by omega)]
theorem cnt_b {f : Nat → Int} {c : Nat} : ∀ n, 0 ≤ cnt f c n ∧ cnt f c n ≤ n := by
  intro n
  induction n with
  | zero => simp [cnt]
  | succ n ih => simp only [cnt]; split <;> omega
theorem cnt_pos {f : Nat → Int} {c : Nat} : ∀ n, 0 < cnt f c n → ∃ i, i < n ∧ f i = (c : Int) := by
  intro n
  induction n with
  | zero => intro h; simp [cnt] at h
  | succ n ih =>
    intro h
    simp only [cnt] at h
    by_cases e : f n = (c : Int)
    · exact ⟨n, by omega, e⟩
    · rw [if_neg e] at h
      obtain ⟨i, h1, h2⟩ := ih (by omega)
      exact ⟨i, by omega, h2⟩
theorem cnt_has {f : Nat → Int} {c i : Nat} : ∀ n, i < n → f i = (c : Int) → 0 < cnt f c n := by
  intro n
  induction n with
  | zero => intro h; exact absurd h (by omega)
  | succ n ih =>
    intro h e
    have b := cnt_b (f := f) (c := c) n
    simp only [cnt]
    by_cases q : i = n
    · subst q; rw [if_pos e]; omega
    · have := ih (by omega) e; split <;> omega
theorem cnt_set {f g : Nat → Int} {c i : Nat} : ∀ n, i < n → (∀ j, j < n → j ≠ i → g j = f j) → cnt g c n = cnt f c n - (if f i = (c : Int) then 1 else 0) + (if g i = (c : Int) then 1 else 0) := by
  intro n
  induction n with
  | zero => intro h; exact absurd h (by omega)
  | succ n ih =>
    intro h hg
    simp only [cnt]
    by_cases q : i = n
    · subst q; rw [cnt_congr i (fun j hj => hg j (by omega) (by omega))]; omega
    · rw [ih (by omega) (fun j hj hne => hg j (by omega) hne), hg n (by omega) (fun e => q e.symm)]; omega
/-- the hand's counts: what a hand array of n cards says -/
def hOf (f : Nat → Int) (n : Nat) : Nat → Int := fun c => cnt f c n
/-- a is played ahead of b -/
def ahd (co po : Nat → Int) (a b : Nat) : Prop := co b < co a ∨ (co a = co b ∧ (po b < po a ∨ (po a = po b ∧ a < b)))
theorem bst_char {co po h : Nat → Int} {e : Int} : ∀ k, (bst co po h e k = -1 ∧ ∀ c, c < k → ¬ (0 < h c ∧ co c ≤ e)) ∨ (0 ≤ bst co po h e k ∧ bst co po h e k < k ∧ (0 < h (bst co po h e k).toNat ∧ co (bst co po h e k).toNat ≤ e) ∧ ∀ c, c < k → 0 < h c → co c ≤ e → c = (bst co po h e k).toNat ∨ ahd co po (bst co po h e k).toNat c) := by
  intro k
  induction k with
  | zero => exact Or.inl ⟨rfl, fun c h => absurd h (by omega)⟩
  | succ k ih =>
    have b0 := bst_b co po h e k
    simp only [bst]
    by_cases q : 0 < h k ∧ co k ≤ e
    · rw [if_pos q]
      rcases ih with ⟨i1, i2⟩ | ⟨i1, i2, i3, i4⟩
      · rw [if_pos (Or.inl i1)]
        refine Or.inr ⟨by omega, by omega, by simpa using q, fun c hc h1 h2 => ?_⟩
        by_cases e1 : c = k
        · left; simpa using e1
        · exact absurd ⟨h1, h2⟩ (i2 c (by omega))
      · by_cases q2 : bst co po h e k = -1 ∨ co (bst co po h e k).toNat < co k ∨ (co k = co (bst co po h e k).toNat ∧ po (bst co po h e k).toNat < po k)
        · rw [if_pos q2]
          refine Or.inr ⟨by omega, by omega, by simpa using q, fun c hc h1 h2 => ?_⟩
          by_cases e1 : c = k
          · left; simpa using e1
          · right
            have := i4 c (by omega) h1 h2
            simp only [Int.toNat_natCast]
            unfold ahd at *
            rcases this with rfl | this <;> omega
        · rw [if_neg q2]
          refine Or.inr ⟨i1, by omega, i3, fun c hc h1 h2 => ?_⟩
          by_cases e1 : c = k
          · subst e1
            right; unfold ahd; omega
          · exact i4 c (by omega) h1 h2
    · rw [if_neg q]
      rcases ih with ⟨i1, i2⟩ | ⟨i1, i2, i3, i4⟩
      · refine Or.inl ⟨i1, fun c hc => ?_⟩
        by_cases e1 : c = k
        · subst e1; exact q
        · exact i2 c (by omega)
      · refine Or.inr ⟨i1, by omega, i3, fun c hc h1 h2 => ?_⟩
        by_cases e1 : c = k
        · subst e1; exact absurd ⟨h1, h2⟩ q
        · exact i4 c (by omega) h1 h2
theorem bst_is {co po h : Nat → Int} {e : Int} {k c : Nat} (hc : c < k) (h1 : 0 < h c) (h2 : co c ≤ e) (ha : ∀ d, d < k → 0 < h d → co d ≤ e → d = c ∨ ahd co po c d) : bst co po h e k = c := by
  rcases bst_char (co := co) (po := po) (h := h) (e := e) k with ⟨i1, i2⟩ | ⟨i1, i2, i3, i4⟩
  · exact absurd ⟨h1, h2⟩ (i2 c hc)
  · have a1 := i4 c hc h1 h2
    have a2 := ha (bst co po h e k).toNat (by omega) i3.1 i3.2
    unfold ahd at *
    rcases a1 with a1 | a1 <;> rcases a2 with a2 | a2 <;> omega
theorem bst_no {co po h : Nat → Int} {e : Int} {k : Nat} (ha : ∀ d, d < k → 0 < h d → e < co d) : bst co po h e k = -1 := by
  rcases bst_char (co := co) (po := po) (h := h) (e := e) k with ⟨i1, i2⟩ | ⟨i1, i2, i3, i4⟩
  · exact i1
  · have := ha (bst co po h e k).toNat (by omega) i3.1; omega
/-- the hand of plan p: hs cards, cards of the book -/
def hdS (M : ZM) (p hs : Nat) : Prop := M p 3 = hs ∧ hs ≤ 10 ∧ ∀ i, i < hs → 0 ≤ M (p + 3) i ∧ M (p + 3) i < M 1 3
theorem ahd_tr {co po : Nat → Int} {a b c : Nat} (h1 : ahd co po a b) (h2 : ahd co po b c) : ahd co po a c := by unfold ahd at *; omega
theorem hp_skip {co po f : Nat → Int} {e b : Int} {k : Nat} (h : ((b = -1 ∧ ∀ j, j < k → e < co (f j).toNat) ∨ (0 ≤ b ∧ b < ((k : Nat) : Int) ∧ co (f (b).toNat).toNat ≤ e ∧ ∀ j, j < k → co (f j).toNat ≤ e → (f j).toNat = (f (b).toNat).toNat ∨ ahd co po (f (b).toNat).toNat (f j).toNat))) (hc : e < co (f k).toNat) : ((b = -1 ∧ ∀ j, j < k + 1 → e < co (f j).toNat) ∨ (0 ≤ b ∧ b < ((k + 1 : Nat) : Int) ∧ co (f (b).toNat).toNat ≤ e ∧ ∀ j, j < k + 1 → co (f j).toNat ≤ e → (f j).toNat = (f (b).toNat).toNat ∨ ahd co po (f (b).toNat).toNat (f j).toNat)) := by
  rcases h with ⟨h1, h2⟩ | ⟨h1, h2, h3, h4⟩
  · refine Or.inl ⟨h1, fun j hj => ?_⟩
    by_cases q : j = k
    · subst q; exact hc
    · exact h2 j (by omega)
  · refine Or.inr ⟨h1, by omega, h3, fun j hj hcj => ?_⟩
    by_cases q : j = k
    · subst q; omega
    · exact h4 j (by omega) hcj
theorem hp_first {co po f : Nat → Int} {e b : Int} {k : Nat} (h : ((b = -1 ∧ ∀ j, j < k → e < co (f j).toNat) ∨ (0 ≤ b ∧ b < ((k : Nat) : Int) ∧ co (f (b).toNat).toNat ≤ e ∧ ∀ j, j < k → co (f j).toNat ≤ e → (f j).toNat = (f (b).toNat).toNat ∨ ahd co po (f (b).toNat).toNat (f j).toNat))) (hc : co (f k).toNat ≤ e) (hb : b = -1) : (((k : Int) = -1 ∧ ∀ j, j < k + 1 → e < co (f j).toNat) ∨ (0 ≤ (k : Int) ∧ (k : Int) < ((k + 1 : Nat) : Int) ∧ co (f ((k : Int)).toNat).toNat ≤ e ∧ ∀ j, j < k + 1 → co (f j).toNat ≤ e → (f j).toNat = (f ((k : Int)).toNat).toNat ∨ ahd co po (f ((k : Int)).toNat).toNat (f j).toNat)) := by
  rcases h with ⟨h1, h2⟩ | ⟨h1, h2, h3, h4⟩
  · refine Or.inr ⟨by omega, by omega, hc, fun j hj hcj => ?_⟩
    by_cases q : j = k
    · subst q; exact Or.inl rfl
    · have := h2 j (by omega); omega
  · omega
theorem hp_keep {co po f : Nat → Int} {e b : Int} {k : Nat} (h : ((b = -1 ∧ ∀ j, j < k → e < co (f j).toNat) ∨ (0 ≤ b ∧ b < ((k : Nat) : Int) ∧ co (f (b).toNat).toNat ≤ e ∧ ∀ j, j < k → co (f j).toNat ≤ e → (f j).toNat = (f (b).toNat).toNat ∨ ahd co po (f (b).toNat).toNat (f j).toNat))) (hc : co (f k).toNat ≤ e) (hb : 0 ≤ b ∧ b < k) (ha : (f k).toNat = (f b.toNat).toNat ∨ ahd co po (f b.toNat).toNat (f k).toNat) : ((b = -1 ∧ ∀ j, j < k + 1 → e < co (f j).toNat) ∨ (0 ≤ b ∧ b < ((k + 1 : Nat) : Int) ∧ co (f (b).toNat).toNat ≤ e ∧ ∀ j, j < k + 1 → co (f j).toNat ≤ e → (f j).toNat = (f (b).toNat).toNat ∨ ahd co po (f (b).toNat).toNat (f j).toNat)) := by
  rcases h with ⟨h1, h2⟩ | ⟨h1, h2, h3, h4⟩
  · omega
  · refine Or.inr ⟨h1, by omega, h3, fun j hj hcj => ?_⟩
    by_cases q : j = k
    · subst q; exact ha
    · exact h4 j (by omega) hcj
theorem hp_take {co po f : Nat → Int} {e b : Int} {k : Nat} (h : ((b = -1 ∧ ∀ j, j < k → e < co (f j).toNat) ∨ (0 ≤ b ∧ b < ((k : Nat) : Int) ∧ co (f (b).toNat).toNat ≤ e ∧ ∀ j, j < k → co (f j).toNat ≤ e → (f j).toNat = (f (b).toNat).toNat ∨ ahd co po (f (b).toNat).toNat (f j).toNat))) (hc : co (f k).toNat ≤ e) (hb : 0 ≤ b ∧ b < k) (ha : ahd co po (f k).toNat (f b.toNat).toNat) : (((k : Int) = -1 ∧ ∀ j, j < k + 1 → e < co (f j).toNat) ∨ (0 ≤ (k : Int) ∧ (k : Int) < ((k + 1 : Nat) : Int) ∧ co (f ((k : Int)).toNat).toNat ≤ e ∧ ∀ j, j < k + 1 → co (f j).toNat ≤ e → (f j).toNat = (f ((k : Int)).toNat).toNat ∨ ahd co po (f ((k : Int)).toNat).toNat (f j).toNat)) := by
  rcases h with ⟨h1, h2⟩ | ⟨h1, h2, h3, h4⟩
  · omega
  · refine Or.inr ⟨by omega, by omega, hc, fun j hj hcj => ?_⟩
    by_cases q : j = k
    · subst q; exact Or.inl rfl
    · right
      show ahd co po (f k).toNat (f j).toNat
      rcases h4 j (by omega) hcj with q2 | q2
      · rw [q2]; exact ha
      · exact ahd_tr ha q2
set_option maxRecDepth 100000 in
set_option maxHeartbeats 4000000 in
theorem l_X5_nextPlace {X : VX} {Q : Nat → Nat} {MI ML : ZM} (K : VK X cX5_nextPlace RX5 5 (some .int) 1 22 0 0) (hM : cOk MI) (p : Nat) (hp : isPl p) (hs : Nat) (S : hdS MI p hs) (e : Int) (he : rg e) (E : VE X 0 0 110 Q (zq Q (zI fun r M L => M = MI ∧ L = ML ∧ ((r = -1 ∧ ∀ j, j < hs → e < MI 3 (MI (p + 3) j).toNat) ∨ (0 ≤ r ∧ r < hs ∧ MI 3 (MI (p + 3) r.toNat).toNat ≤ e ∧ ∀ j, j < hs → MI 3 (MI (p + 3) j).toNat ≤ e → (MI (p + 3) j).toNat = (MI (p + 3) r.toNat).toNat ∨ ahd (MI 3) (MI 4) (MI (p + 3) r.toNat).toNat (MI (p + 3) j).toNat))))) : ∀ (n k : Nat) (y b : Int), y = k → ((b = -1 ∧ ∀ j, j < k → e < MI 3 (MI (p + 3) j).toNat) ∨ (0 ≤ b ∧ b < k ∧ MI 3 (MI (p + 3) b.toNat).toNat ≤ e ∧ ∀ j, j < k → MI 3 (MI (p + 3) j).toNat ≤ e → (MI (p + 3) j).toNat = (MI (p + 3) b.toNat).toNat ∨ ahd (MI 3) (MI 4) (MI (p + 3) b.toNat).toNat (MI (p + 3) j).toNat)) → k ≤ hs → hs < k + n → V X (0, 0) 110 Q z_rf MI ML 5 [(4, .int (iI y)), (3, .int (iI b)), (0, .ref (Q p)), (1, .ref (Q 1)), (2, .int (iI e))] [] := by
  have ua := hM.2.2.2.1
  have u0 := hM.1
  have hs10 := S.2.1
  intro n
  induction n with
  | zero => intro k y b hy hI hk hn; exact absurd hn (by omega)
  | succ n ih =>
    intro k y b hy hI hk hn
    have hb9 : rg b := by rcases hI with ⟨q, -⟩ | ⟨q, q2, -⟩ <;> exact ⟨by omega, by omega⟩
    refine v_iload K 0 dX5_nextPlace_5 rfl ?_
    refine v_aload_n K 2 dX5_nextPlace_7 rfl rfl ?_
    refine v_geti K ff_X5_21 (by have := hp.1; have := hp.2.1; omega) hp.2.2.1 rfl dX5_nextPlace_8 ?_
    refine v_eqi ((hs : Int)) (S.1) ?_
    refine v_icmp_ge K 64 ⟨by omega, by omega⟩ ⟨by omega, by omega⟩ dX5_nextPlace_11 (by decide) (fun h11 => ?_) (fun h11 => ?_)
    · obtain rfl : k = hs := by omega
      refine v_iload_n K 1 dX5_nextPlace_64 rfl rfl ?_
      exact v_ri K E dX5_nextPlace_65 ⟨rfl, rfl, hI⟩
    · have q1 := S.2.2 k (by omega)
      have q2 := ua (MI (p + 3) k).toNat (by omega)
      refine v_aload_n K 3 dX5_nextPlace_14 rfl rfl ?_
      refine v_getr K ff_X5_57 (by decide) rfl rfl rfl dX5_nextPlace_15 ?_
      refine v_aload_n K 2 dX5_nextPlace_18 rfl rfl ?_
      refine v_getr K ff_X5_18 (by have := hp.1; have := hp.2.1; omega) hp.2.2.1 rfl hp.2.2.2.1.2.2 dX5_nextPlace_19 ?_
      refine v_iload K 0 dX5_nextPlace_22 rfl ?_
      refine v_iald K (k) (by have := hp.2.1; omega) hp.2.2.2.2.2.2.1 (by omega) (by rw [hp.2.2.2.2.2.2.2]; omega) dX5_nextPlace_24 ?_
      refine v_iald K ((MI (p + 3) k).toNat) (by decide) rfl (by omega) (by show _ < 12; omega) dX5_nextPlace_25 ?_
      refine v_iload_n K 4 dX5_nextPlace_26 rfl rfl ?_
      refine v_icmp_gt K 58 ⟨by omega, by omega⟩ he dX5_nextPlace_27 (by decide) (fun h27 => ?_) (fun h27 => ?_)
      · refine v_iinc K 0 (fun q9 => [(4, .int (iI q9)), (3, .int (iI b)), (0, .ref (Q p)), (1, .ref (Q 1)), (2, .int (iI e))]) dX5_nextPlace_58 rfl (by decide) (fun _ => rfl) (fun w hw => ?_)
        refine v_goto K 5 dX5_nextPlace_61 (by decide) ?_
        exact ih (k + 1) w b (by omega) (hp_skip hI (by omega)) (by omega) (by omega)
      · refine v_iload_n K 1 dX5_nextPlace_30 rfl rfl ?_
        refine v_iconst K dX5_nextPlace_31 ?_
        refine v_icmp_eq K 55 hb9 ⟨by omega, by omega⟩ dX5_nextPlace_32 (by decide) (fun h32 => ?_) (fun h32 => ?_)
        · refine v_iload K 0 dX5_nextPlace_55 rfl ?_
          refine v_istore_n K (fun q9 => [(3, .int (iI q9)), (4, .int (iI y)), (0, .ref (Q p)), (1, .ref (Q 1)), (2, .int (iI e))]) dX5_nextPlace_57 rfl (by decide) (fun _ => rfl) (fun v hv => ?_)
          refine v_iinc K 1 (fun q9 => [(4, .int (iI q9)), (3, .int (iI v)), (0, .ref (Q p)), (1, .ref (Q 1)), (2, .int (iI e))]) dX5_nextPlace_58 rfl (by decide) (fun _ => rfl) (fun w hw => ?_)
          refine v_goto K 5 dX5_nextPlace_61 (by decide) ?_
          exact ih (k + 1) w v (by omega) (by rw [hv, hy]; exact hp_first hI (by omega) (by omega)) (by omega) (by omega)
        · have q3 : 0 ≤ b ∧ b < k := by omega
          have q4 := S.2.2 b.toNat (by omega)
          refine v_aload_n K 3 dX5_nextPlace_35 rfl rfl ?_
          refine v_aload_n K 2 dX5_nextPlace_36 rfl rfl ?_
          refine v_getr K ff_X5_18 (by have := hp.1; have := hp.2.1; omega) hp.2.2.1 rfl hp.2.2.2.1.2.2 dX5_nextPlace_37 ?_
          refine v_iload K 0 dX5_nextPlace_40 rfl ?_
          refine v_iald K (k) (by have := hp.2.1; omega) hp.2.2.2.2.2.2.1 (by omega) (by rw [hp.2.2.2.2.2.2.2]; omega) dX5_nextPlace_42 ?_
          refine v_aload_n K 2 dX5_nextPlace_43 rfl rfl ?_
          refine v_getr K ff_X5_18 (by have := hp.1; have := hp.2.1; omega) hp.2.2.1 rfl hp.2.2.2.1.2.2 dX5_nextPlace_44 ?_
          refine v_iload_n K 1 dX5_nextPlace_47 rfl rfl ?_
          refine v_iald K (b.toNat) (by have := hp.2.1; omega) hp.2.2.2.2.2.2.1 (by omega) (by rw [hp.2.2.2.2.2.2.2]; omega) dX5_nextPlace_48 ?_
          refine v_cVi K (c_X0_isPlayedAhead hM (MI (p + 3) k).toNat (MI (p + 3) b.toNat).toNat (by omega) (by omega) _ _ (by omega) (by omega)) rfl fc_X5_66 wm_X0_isPlayedAhead ws_X0_isPlayedAhead (by decide) 0 rfl (by decide) rfl rfl (by decide) (Nat.le_of_ble_eq_true rfl) dX5_nextPlace_49 (fun r49 M49 L49 h49 => ?_)
          obtain ⟨hm49, hl49, hr49⟩ := h49
          subst M49 L49
          refine v_if_eq K 58 ⟨by omega, by omega⟩ dX5_nextPlace_52 (by decide) (fun h52 => ?_) (fun h52 => ?_)
          · refine v_iinc K 0 (fun q9 => [(4, .int (iI q9)), (3, .int (iI b)), (0, .ref (Q p)), (1, .ref (Q 1)), (2, .int (iI e))]) dX5_nextPlace_58 rfl (by decide) (fun _ => rfl) (fun w hw => ?_)
            refine v_goto K 5 dX5_nextPlace_61 (by decide) ?_
            exact ih (k + 1) w b (by omega) (hp_keep hI (by omega) q3 (by unfold ahd; omega)) (by omega) (by omega)
          · refine v_iload K 0 dX5_nextPlace_55 rfl ?_
            refine v_istore_n K (fun q9 => [(3, .int (iI q9)), (4, .int (iI y)), (0, .ref (Q p)), (1, .ref (Q 1)), (2, .int (iI e))]) dX5_nextPlace_57 rfl (by decide) (fun _ => rfl) (fun v hv => ?_)
            refine v_iinc K 1 (fun q9 => [(4, .int (iI q9)), (3, .int (iI v)), (0, .ref (Q p)), (1, .ref (Q 1)), (2, .int (iI e))]) dX5_nextPlace_58 rfl (by decide) (fun _ => rfl) (fun w hw => ?_)
            refine v_goto K 5 dX5_nextPlace_61 (by decide) ?_
            exact ih (k + 1) w v (by omega) (by rw [hv, hy]; exact hp_take hI (by omega) q3 (by unfold ahd; omega)) (by omega) (by omega)
set_option maxRecDepth 100000 in
set_option maxHeartbeats 4000000 in
theorem c_X5_nextPlace {l : Launch} {D : va_G} {Z : ZC} {Q : Nat → Nat} {MI ML : ZM} (hM : cOk MI) (p : Nat) (hp : isPl p) (hs : Nat) (S : hdS MI p hs) (e : Int) (he : rg e) : C_X5_nextPlace l D Z Q [.ref (Q p), .ref (Q 1), .int (iI e)] MI ML (zI fun r M L => M = MI ∧ L = ML ∧ ((r = -1 ∧ ∀ j, j < hs → e < MI 3 (MI (p + 3) j).toNat) ∨ (0 ≤ r ∧ r < hs ∧ MI 3 (MI (p + 3) r.toNat).toNat ≤ e ∧ ∀ j, j < hs → MI 3 (MI (p + 3) j).toNat ≤ e → (MI (p + 3) j).toNat = (MI (p + 3) r.toNat).toNat ∨ ahd (MI 3) (MI 4) (MI (p + 3) r.toNat).toNat (MI (p + 3) j).toNat))) := by
  refine CM.of (by decide +kernel) (Nat.le_of_ble_eq_true rfl) ?_
  intro X K E _ _ _ _
  show V X (0, 0) 110 Q z_rf MI ML 0 [(0, .ref (Q p)), (1, .ref (Q 1)), (2, .int (iI e))] []
  refine v_iconst K dX5_nextPlace_0 ?_
  refine v_istore_n K (fun q9 => [(3, .int (iI q9)), (0, .ref (Q p)), (1, .ref (Q 1)), (2, .int (iI e))]) dX5_nextPlace_1 rfl (by decide) (fun _ => rfl) (fun b hb => ?_)
  refine v_iconst K dX5_nextPlace_2 ?_
  refine v_istore K (fun q9 => [(4, .int (iI q9)), (3, .int (iI b)), (0, .ref (Q p)), (1, .ref (Q 1)), (2, .int (iI e))]) dX5_nextPlace_3 (by decide) (fun _ => rfl) (fun y hy => ?_)
  have hs10 := S.2.1
  exact l_X5_nextPlace K hM p hp hs S e he E 11 0 y b hy (Or.inl ⟨hb, fun j hj => absurd hj (by omega)⟩) (by omega) (by omega)
set_option maxRecDepth 100000 in
set_option maxHeartbeats 4000000 in
theorem c_X5_putDown {l : Launch} {D : va_G} {Z : ZC} {Q : Nat → Nat} {MI ML : ZM} (p : Nat) (hp : isPl p) (hs : Nat) (h3 : MI p 3 = hs) (h10 : hs ≤ 10) (k : Nat) (hk : k < hs) (pd : Nat) (h5 : MI p 5 = pd) (hpd : pd < 10) (k9 : Int) (hk9 : k9 = k) : C_X5_putDown l D Z Q [.ref (Q p), .int (iI k9)] MI ML (zV fun M L => L = ML ∧ M = z_up (z_up (z_up (z_up MI (p + 1) pd (MI (p + 3) k)) p 5 ((pd : Int) + 1)) p 3 ((hs : Int) - 1)) (p + 3) k (MI (p + 3) (hs - 1))) := by
  refine CM.of (by decide +kernel) (Nat.le_of_ble_eq_true rfl) ?_
  intro X K E _ _ _ _
  show V X (0, 0) 110 Q z_rf MI ML 0 [(0, .ref (Q p)), (1, .int (iI k9))] []
  refine v_aload_n K 0 dX5_putDown_0 rfl rfl ?_
  refine v_getr K ff_X5_9 (by have := hp.1; have := hp.2.1; omega) hp.2.2.1 rfl hp.2.2.2.1.1 dX5_putDown_1 ?_
  refine v_aload_n K 0 dX5_putDown_4 rfl rfl ?_
  refine v_geti K ff_X5_28 (by have := hp.1; have := hp.2.1; omega) hp.2.2.1 rfl dX5_putDown_5 ?_
  refine v_eqi ((pd : Int)) (h5) ?_
  refine v_aload_n K 0 dX5_putDown_8 rfl rfl ?_
  refine v_getr K ff_X5_18 (by have := hp.1; have := hp.2.1; omega) hp.2.2.1 rfl hp.2.2.2.1.2.2 dX5_putDown_9 ?_
  refine v_iload_n K 1 dX5_putDown_12 rfl rfl ?_
  refine v_iald K (k) (by have := hp.2.1; omega) hp.2.2.2.2.2.2.1 (by omega) (by rw [hp.2.2.2.2.2.2.2]; omega) dX5_putDown_13 ?_
  refine v_iast K (pd) (by have := hp.2.1; omega) hp.2.2.2.2.1.1 rfl (by rw [hp.2.2.2.2.1.2]; omega) dX5_putDown_14 ?_
  refine v_aload_n K 0 dX5_putDown_15 rfl rfl ?_
  refine v_dup K dX5_putDown_16 rfl ?_
  refine v_geti K ff_X5_28 (by have := hp.1; have := hp.2.1; omega) hp.2.2.1 rfl dX5_putDown_17 ?_
  refine v_eqi ((pd : Int)) (by rw [z_up_k (by omega)]; exact h5) ?_
  refine v_iconst K dX5_putDown_20 ?_
  refine v_iadd K dX5_putDown_21 ?_
  refine v_puti K fp_X5_28 (by have := hp.1; have := hp.2.1; omega) hp.2.2.1 rfl dX5_putDown_22 ?_
  refine v_aload_n K 0 dX5_putDown_25 rfl rfl ?_
  refine v_dup K dX5_putDown_26 rfl ?_
  refine v_geti K ff_X5_21 (by have := hp.1; have := hp.2.1; omega) hp.2.2.1 rfl dX5_putDown_27 ?_
  refine v_eqi ((hs : Int)) (by rw [z_up_j (by omega), z_up_k (by omega)]; exact h3) ?_
  refine v_iconst K dX5_putDown_30 ?_
  refine v_isub K dX5_putDown_31 ?_
  refine v_puti K fp_X5_21 (by have := hp.1; have := hp.2.1; omega) hp.2.2.1 rfl dX5_putDown_32 ?_
  refine v_aload_n K 0 dX5_putDown_35 rfl rfl ?_
  refine v_getr K ff_X5_18 (by have := hp.1; have := hp.2.1; omega) hp.2.2.1 rfl hp.2.2.2.1.2.2 dX5_putDown_36 ?_
  refine v_iload_n K 1 dX5_putDown_39 rfl rfl ?_
  refine v_aload_n K 0 dX5_putDown_40 rfl rfl ?_
  refine v_getr K ff_X5_18 (by have := hp.1; have := hp.2.1; omega) hp.2.2.1 rfl hp.2.2.2.1.2.2 dX5_putDown_41 ?_
  refine v_aload_n K 0 dX5_putDown_44 rfl rfl ?_
  refine v_geti K ff_X5_21 (by have := hp.1; have := hp.2.1; omega) hp.2.2.1 rfl dX5_putDown_45 ?_
  refine v_eqi (((hs - 1 : Nat) : Int)) (by rw [z_up_s]; omega) ?_
  refine v_iald K (hs - 1) (by have := hp.2.1; omega) hp.2.2.2.2.2.2.1 rfl (by rw [hp.2.2.2.2.2.2.2]; omega) dX5_putDown_48 ?_
  refine v_eqi (MI (p + 3) (hs - 1)) (by rw [z_up_k (by omega), z_up_k (by omega), z_up_k (by omega)]) ?_
  refine v_iast K (k) (by have := hp.2.1; omega) hp.2.2.2.2.2.2.1 (by omega) (by rw [hp.2.2.2.2.2.2.2]; omega) dX5_putDown_49 ?_
  exact v_rv K E dX5_putDown_50 ⟨rfl, rfl⟩
