/-- B is a contest's cell -/
def isCt (B : Nat) : Prop := B = 19 ∨ B = 51
theorem ct_k {B : Nat} (h : isCt B) : z_kd B = 1 ∧ z_rf B 1 = some (B + 2) ∧ z_kd (B + 2) = 14 ∧ z_ln (B + 2) = 5 := by rcases h with rfl | rfl <;> decide +kernel
theorem ct_r {B : Nat} (h : isCt B) {i : Nat} (hi : i < 5) : z_rf (B + 2) i = some (B + 3 + i) ∧ z_kd (B + 3 + i) = 10 ∧ z_ln (B + 3 + i) = 5 := by
  rcases h with rfl | rfl
  · exact (by decide +kernel : ∀ i, i < 5 → z_rf (19 + 2) i = some (19 + 3 + i) ∧ z_kd (19 + 3 + i) = 10 ∧ z_ln (19 + 3 + i) = 5) i hi
  · exact (by decide +kernel : ∀ i, i < 5 → z_rf (51 + 2) i = some (51 + 3 + i) ∧ z_kd (51 + 3 + i) = 10 ∧ z_ln (51 + 3 + i) = 5) i hi
theorem ct_b {B : Nat} (h : isCt B) : B + 38 < 110 := by rcases h with rfl | rfl <;> decide
set_option maxRecDepth 100000 in
set_option maxHeartbeats 4000000 in
theorem c_X1_enter {l : Launch} {D : va_G} {Z : ZC} {Q : Nat → Nat} {MI ML : ZM} (B : Nat) (hB : isCt B) (a b : Nat) (ha : a < 5) (hb : b < 5) (a9 b9 : Int) (ha9 : a9 = a) (hb9 : b9 = b) (v : Int) : C_X1_enter l D Z Q [.ref (Q B), .int (iI a9), .int (iI b9), .int (iI v)] MI ML (zV fun M L => L = ML ∧ M = z_up (z_up MI (B + 3 + a) b v) (B + 3 + b) a (-v)) := by
  refine CM.of (by decide +kernel) (Nat.le_of_ble_eq_true rfl) ?_
  intro X K E _ _ _ _
  show V X (0, 0) 110 Q z_rf MI ML 0 [(0, .ref (Q B)), (1, .int (iI a9)), (2, .int (iI b9)), (3, .int (iI v))] []
  refine v_aload_n K 0 dX1_enter_0 rfl rfl ?_
  refine v_getr K ff_X1_19 (by have := ct_b hB; omega) (ct_k hB).1 rfl (ct_k hB).2.1 dX1_enter_1 ?_
  refine v_iload_n K 1 dX1_enter_4 rfl rfl ?_
  refine v_aaldT K (a) (by have := ct_b hB; omega) (ct_k hB).2.2.1 (by omega) (by rw [(ct_k hB).2.2.2]; omega) (ct_r hB (by omega)).1 dX1_enter_5 ?_
  refine v_iload_n K 2 dX1_enter_6 rfl rfl ?_
  refine v_iload_n K 3 dX1_enter_7 rfl rfl ?_
  refine v_iast K (b) (by have := ct_b hB; omega) (ct_r hB (i := a) (by omega)).2.1 (by omega) (by rw [(ct_r hB (i := a) (by omega)).2.2]; omega) dX1_enter_8 ?_
  refine v_aload_n K 0 dX1_enter_9 rfl rfl ?_
  refine v_getr K ff_X1_19 (by have := ct_b hB; omega) (ct_k hB).1 rfl (ct_k hB).2.1 dX1_enter_10 ?_
  refine v_iload_n K 2 dX1_enter_13 rfl rfl ?_
  refine v_aaldT K (b) (by have := ct_b hB; omega) (ct_k hB).2.2.1 (by omega) (by rw [(ct_k hB).2.2.2]; omega) (ct_r hB (by omega)).1 dX1_enter_14 ?_
  refine v_iload_n K 1 dX1_enter_15 rfl rfl ?_
  refine v_iload_n K 3 dX1_enter_16 rfl rfl ?_
  refine v_ineg K dX1_enter_17 ?_
  refine v_iast K (a) (by have := ct_b hB; omega) (ct_r hB (i := b) (by omega)).2.1 (by omega) (by rw [(ct_r hB (i := b) (by omega)).2.2]; omega) dX1_enter_18 ?_
  exact v_rv K E dX1_enter_19 ⟨rfl, rfl⟩
def rge (T : Nat → Nat → Int) (a b c : Nat) : Nat := if a < c ∧ 0 < T a b ∧ 0 < T b c ∧ 0 < T c a then 1 else 0
def sumN (f : Nat → Nat) : Nat → Nat
  | 0 => 0
  | k + 1 => sumN f k + f k
theorem rgc_sum (T : Nat → Nat → Int) (a b : Nat) : ∀ k, (rgc T a b k).length = sumN (rge T a b) k := by
  intro k
  induction k with
  | zero => rfl
  | succ k ih => simp only [rgc, sumN, rge]; split <;> simp [ih]
theorem rgb_sum (T : Nat → Nat → Int) (nd a : Nat) : ∀ k, (rgb T nd a k).length = sumN (fun b => if a < b then sumN (rge T a b) nd else 0) k := by
  intro k
  induction k with
  | zero => rfl
  | succ k ih => simp only [rgb, sumN]; split <;> simp [ih, rgc_sum]
theorem rga_sum (T : Nat → Nat → Int) (nd : Nat) : ∀ k, (rga T nd k).length = sumN (fun a => sumN (fun b => if a < b then sumN (rge T a b) nd else 0) nd) k := by
  intro k
  induction k with
  | zero => rfl
  | succ k ih => simp only [rga, sumN, List.length_append, ih, rgb_sum]
theorem rge_p {T : Nat → Nat → Int} (h : ∀ a b, T a b = - T b a) (a b c : Nat) : rge T a b c + rge T a c b ≤ 1 := by
  unfold rge
  have h1 := h a b
  have h2 := h a c
  split <;> split <;> omega
theorem rge_d {T : Nat → Nat → Int} (h : ∀ a b, T a b = - T b a) (a b : Nat) : rge T a b b = 0 := by
  unfold rge
  have h1 := h b b
  rw [if_neg (by omega)]
theorem rge_l {T : Nat → Nat → Int} {a b c : Nat} (h : c ≤ a) : rge T a b c = 0 := by
  unfold rge
  rw [if_neg (by omega)]
set_option maxHeartbeats 4000000 in
theorem rgs_len {T : Nat → Nat → Int} (h : ∀ a b, T a b = - T b a) {nd : Nat} (hn : nd ≤ 5) : (rgs T nd).length ≤ 10 := by
  unfold rgs
  rw [rga_sum]
  have p := rge_p h
  have d := rge_d h
  have l := @rge_l T
  have p012 := p 0 1 2
  have p013 := p 0 1 3
  have p014 := p 0 1 4
  have p023 := p 0 2 3
  have p024 := p 0 2 4
  have p034 := p 0 3 4
  have p123 := p 1 2 3
  have p124 := p 1 2 4
  have p134 := p 1 3 4
  have p234 := p 2 3 4
  rcases (show nd = 0 ∨ nd = 1 ∨ nd = 2 ∨ nd = 3 ∨ nd = 4 ∨ nd = 5 by omega) with rfl | rfl | rfl | rfl | rfl | rfl <;> simp [sumN, d, l] <;> omega
/-- the rings l as the class keeps them -/
def rcD (M : ZM) (l : List (Nat × Nat × Nat)) : Prop := M 83 1 = l.length ∧ ∀ (i : Nat) (q : Nat × Nat × Nat), l[i]? = some q → M 84 (3 * i) = q.1 ∧ M 84 (3 * i + 1) = q.2.1 ∧ M 84 (3 * i + 2) = q.2.2
def rcF (MI M : ZM) : Prop := ∀ a b, a ≠ 84 → ¬ (a = 83 ∧ b = 1) → M a b = MI a b
theorem rcD_push {M : ZM} {l : List (Nat × Nat × Nat)} {a b c : Nat} {n v1 v2 v3 w : Int} (h : rcD M l) (e1 : v1 = a) (e2 : v2 = b) (e3 : v3 = c) (ew : w = (l.length : Int) + 1) : rcD (z_up (z_up (z_up (z_up M 84 (3 * l.length) v1) 84 (3 * l.length + 1) v2) 84 (3 * l.length + 2) v3) 83 1 w) (l ++ [(a, b, c)]) := by
  obtain ⟨h1, h2⟩ := h
  refine ⟨by rw [z_up_s, ew]; simp, fun i q hq => ?_⟩
  simp only [show ∀ (N : ZM) (j : Nat), z_up N 83 1 w 84 j = N 84 j from fun N j => z_up_k (by decide)]
  by_cases hi : i < l.length
  · rw [List.getElem?_append_left hi] at hq
    have := h2 i q hq
    simp only [z_up]
    rw [if_neg (by omega), if_neg (by omega), if_neg (by omega), if_neg (by omega), if_neg (by omega), if_neg (by omega), if_neg (by omega), if_neg (by omega), if_neg (by omega)]
    exact this
  · have hi2 : i = l.length := by
      have := (List.getElem?_eq_some_iff.mp hq).1
      simp at this; omega
    subst hi2
    rw [List.getElem?_append_right (Nat.le_refl _)] at hq
    simp at hq
    subst hq
    simp [z_up, e1, e2, e3]
theorem rcF.up {MI M : ZM} (h : rcF MI M) {k j : Nat} {v : Int} (hk : k = 84 ∨ (k = 83 ∧ j = 1)) : rcF MI (z_up M k j v) := fun a b h1 h2 => by
  simp only [z_up]
  rw [if_neg (by omega)]
  exact h a b h1 h2
theorem rgc_mono (T : Nat → Nat → Int) (a b k : Nat) : ∀ m, (rgc T a b k).length ≤ (rgc T a b (k + m)).length := by
  intro m
  induction m with
  | zero => exact Nat.le_refl _
  | succ m ih => rw [← Nat.add_assoc]; simp only [rgc]; split <;> (try simp) <;> omega
theorem rgb_mono (T : Nat → Nat → Int) (nd a k : Nat) : ∀ m, (rgb T nd a k).length ≤ (rgb T nd a (k + m)).length := by
  intro m
  induction m with
  | zero => exact Nat.le_refl _
  | succ m ih => rw [← Nat.add_assoc]; simp only [rgb]; split <;> (try simp) <;> omega
theorem rga_mono (T : Nat → Nat → Int) (nd k : Nat) : ∀ m, (rga T nd k).length ≤ (rga T nd (k + m)).length := by
  intro m
  induction m with
  | zero => exact Nat.le_refl _
  | succ m ih => rw [← Nat.add_assoc]; simp only [rga]; simp; omega
set_option maxRecDepth 100000 in
set_option maxHeartbeats 4000000 in
theorem l_X6_findThird {X : VX} {Q : Nat → Nat} {MI ML : ZM} (K : VK X cX6_findThird RX6 6 none 0 0 0 0) (T9 : Nat → Nat → Int) (nd : Nat) (hnd : nd ≤ 5) (hT : ∀ i j, i < nd → j < nd → MI (22 + i) j = T9 i j) (hT2 : ∀ i j, -2 ≤ T9 i j ∧ T9 i j ≤ 2) (a b : Nat) (ha : a < nd) (hb : b < nd) (l9 : List (Nat × Nat × Nat)) (hl : (l9 ++ rgc T9 a b nd).length ≤ 10) (E : VE X 0 0 110 Q (zq Q (zV fun M L => L = ML ∧ rcF MI M ∧ rcD M (l9 ++ rgc T9 a b nd)))) : ∀ (n c : Nat) (M : ZM) (z : Int), z = c → rcF MI M → rcD M (l9 ++ rgc T9 a b c) → a < c → c ≤ nd → nd < c + n → V X (0, 0) 110 Q z_rf M ML 5 [(5, .int (iI z)), (0, .ref (Q 83)), (1, .ref (Q 21)), (2, .int (iI (nd : Int))), (3, .int (iI (a : Int))), (4, .int (iI (b : Int)))] [] := by
  intro n
  induction n with
  | zero => intro c M z hz F G hac hc hn; exact absurd hn (by omega)
  | succ n ih =>
    intro c M z hz F G hac hc hn
    refine v_iload K 0 dX6_findThird_5 rfl ?_
    refine v_iload_n K 3 dX6_findThird_7 rfl rfl ?_
    refine v_icmp_ge K 97 ⟨by omega, by omega⟩ ⟨by omega, by omega⟩ dX6_findThird_8 (by decide) (fun h8 => ?_) (fun h8 => ?_)
    · obtain rfl : c = nd := by omega
      exact v_rv K E dX6_findThird_97 ⟨rfl, F, G⟩
    · have t1 := hT2 a b
      have t2 := hT2 b c
      have t3 := hT2 c a
      refine v_aload_n K 2 dX6_findThird_11 rfl rfl ?_
      refine v_iload_n K 4 dX6_findThird_12 rfl rfl ?_
      refine v_aaldT K (a) (by decide) rfl rfl (by show _ < 5; omega) (zr_nt (by omega)) dX6_findThird_13 ?_
      refine v_iload K 5 dX6_findThird_14 rfl ?_
      refine v_iald K (b) (by omega) (ct_r (Or.inl rfl) (i := a) (by omega)).2.1 (by omega) (by rw [show z_ln (22 + a) = 5 from (ct_r (Or.inl rfl) (i := a) (by omega)).2.2]; omega) dX6_findThird_16 ?_
      refine v_eqi (T9 a b) ((F (22 + a) b (by omega) (by omega)).trans (hT a b (by omega) (by omega))) ?_
      refine v_if_le K 91 ⟨by omega, by omega⟩ dX6_findThird_17 (by decide) (fun h17 => ?_) (fun h17 => ?_)
      · refine v_iinc K 0 (fun q9 => [(5, .int (iI q9)), (0, .ref (Q 83)), (1, .ref (Q 21)), (2, .int (iI (nd : Int))), (3, .int (iI (a : Int))), (4, .int (iI (b : Int)))]) dX6_findThird_91 rfl (by decide) (fun _ => rfl) (fun w hw => ?_)
        refine v_goto K 5 dX6_findThird_94 (by decide) ?_
        have e1 : rgc T9 a b (c + 1) = rgc T9 a b c := by simp only [rgc]; rw [if_neg (by omega)]
        exact ih (c + 1) M w (by omega) F (by rw [e1]; exact G) (by omega) (by omega) (by omega)
      · refine v_aload_n K 2 dX6_findThird_20 rfl rfl ?_
        refine v_iload K 5 dX6_findThird_21 rfl ?_
        refine v_aaldT K (b) (by decide) rfl rfl (by show _ < 5; omega) (zr_nt (by omega)) dX6_findThird_23 ?_
        refine v_iload K 0 dX6_findThird_24 rfl ?_
        refine v_iald K (c) (by omega) (ct_r (Or.inl rfl) (i := b) (by omega)).2.1 (by omega) (by rw [show z_ln (22 + b) = 5 from (ct_r (Or.inl rfl) (i := b) (by omega)).2.2]; omega) dX6_findThird_26 ?_
        refine v_eqi (T9 b c) ((F (22 + b) c (by omega) (by omega)).trans (hT b c (by omega) (by omega))) ?_
        refine v_if_le K 91 ⟨by omega, by omega⟩ dX6_findThird_27 (by decide) (fun h27 => ?_) (fun h27 => ?_)
        · refine v_iinc K 0 (fun q9 => [(5, .int (iI q9)), (0, .ref (Q 83)), (1, .ref (Q 21)), (2, .int (iI (nd : Int))), (3, .int (iI (a : Int))), (4, .int (iI (b : Int)))]) dX6_findThird_91 rfl (by decide) (fun _ => rfl) (fun w hw => ?_)
          refine v_goto K 5 dX6_findThird_94 (by decide) ?_
          have e1 : rgc T9 a b (c + 1) = rgc T9 a b c := by simp only [rgc]; rw [if_neg (by omega)]
          exact ih (c + 1) M w (by omega) F (by rw [e1]; exact G) (by omega) (by omega) (by omega)
        · refine v_aload_n K 2 dX6_findThird_30 rfl rfl ?_
          refine v_iload K 0 dX6_findThird_31 rfl ?_
          refine v_aaldT K (c) (by decide) rfl (by omega) (by show _ < 5; omega) (zr_nt (by omega)) dX6_findThird_33 ?_
          refine v_iload_n K 4 dX6_findThird_34 rfl rfl ?_
          refine v_iald K (a) (by omega) (ct_r (Or.inl rfl) (i := c) (by omega)).2.1 (by omega) (by rw [show z_ln (22 + c) = 5 from (ct_r (Or.inl rfl) (i := c) (by omega)).2.2]; omega) dX6_findThird_35 ?_
          refine v_eqi (T9 c a) ((F (22 + c) a (by omega) (by omega)).trans (hT c a (by omega) (by omega))) ?_
          refine v_if_le K 91 ⟨by omega, by omega⟩ dX6_findThird_36 (by decide) (fun h36 => ?_) (fun h36 => ?_)
          · refine v_iinc K 0 (fun q9 => [(5, .int (iI q9)), (0, .ref (Q 83)), (1, .ref (Q 21)), (2, .int (iI (nd : Int))), (3, .int (iI (a : Int))), (4, .int (iI (b : Int)))]) dX6_findThird_91 rfl (by decide) (fun _ => rfl) (fun w hw => ?_)
            refine v_goto K 5 dX6_findThird_94 (by decide) ?_
            have e1 : rgc T9 a b (c + 1) = rgc T9 a b c := by simp only [rgc]; rw [if_neg (by omega)]
            exact ih (c + 1) M w (by omega) F (by rw [e1]; exact G) (by omega) (by omega) (by omega)
          · have e1 : rgc T9 a b (c + 1) = rgc T9 a b c ++ [(a, b, c)] := by simp only [rgc]; rw [if_pos (by omega)]
            have e2 := rgc_mono T9 a b (c + 1) (nd - (c + 1))
            rw [show c + 1 + (nd - (c + 1)) = nd by omega, e1] at e2
            simp only [List.length_append, List.length_cons, List.length_nil] at e2 hl
            obtain ⟨m9, hm9⟩ : ∃ m9, m9 = (l9 ++ rgc T9 a b c).length := ⟨_, rfl⟩
            have hm9b : m9 < 10 := by rw [hm9, List.length_append]; omega
            have G1 := G.1
            rw [← hm9] at G1
            refine v_aload_n K 1 dX6_findThird_39 rfl rfl ?_
            refine v_getr K ff_X6_9 (by decide) rfl rfl rfl dX6_findThird_40 ?_
            refine v_iconst K dX6_findThird_43 ?_
            refine v_aload_n K 1 dX6_findThird_44 rfl rfl ?_
            refine v_geti K ff_X6_15 (by decide) rfl rfl dX6_findThird_45 ?_
            refine v_eqi ((m9 : Int)) (G1) ?_
            refine v_imul K dX6_findThird_48 ?_
            refine v_iload_n K 4 dX6_findThird_49 rfl rfl ?_
            refine v_iast K (3 * m9) (by decide) rfl (by omega) (by show _ < 30; omega) dX6_findThird_50 ?_
            refine v_aload_n K 1 dX6_findThird_51 rfl rfl ?_
            refine v_getr K ff_X6_9 (by decide) rfl rfl rfl dX6_findThird_52 ?_
            refine v_iconst K dX6_findThird_55 ?_
            refine v_aload_n K 1 dX6_findThird_56 rfl rfl ?_
            refine v_geti K ff_X6_15 (by decide) rfl rfl dX6_findThird_57 ?_
            refine v_eqi ((m9 : Int)) (by rw [z_up_k (by decide)]; exact G1) ?_
            refine v_imul K dX6_findThird_60 ?_
            refine v_iconst K dX6_findThird_61 ?_
            refine v_iadd K dX6_findThird_62 ?_
            refine v_iload K 5 dX6_findThird_63 rfl ?_
            refine v_iast K (3 * m9 + 1) (by decide) rfl (by omega) (by show _ < 30; omega) dX6_findThird_65 ?_
            refine v_aload_n K 1 dX6_findThird_66 rfl rfl ?_
            refine v_getr K ff_X6_9 (by decide) rfl rfl rfl dX6_findThird_67 ?_
            refine v_iconst K dX6_findThird_70 ?_
            refine v_aload_n K 1 dX6_findThird_71 rfl rfl ?_
            refine v_geti K ff_X6_15 (by decide) rfl rfl dX6_findThird_72 ?_
            refine v_eqi ((m9 : Int)) (by rw [z_up_k (by decide), z_up_k (by decide)]; exact G1) ?_
            refine v_imul K dX6_findThird_75 ?_
            refine v_iconst K dX6_findThird_76 ?_
            refine v_iadd K dX6_findThird_77 ?_
            refine v_iload K 0 dX6_findThird_78 rfl ?_
            refine v_iast K (3 * m9 + 2) (by decide) rfl (by omega) (by show _ < 30; omega) dX6_findThird_80 ?_
            refine v_aload_n K 1 dX6_findThird_81 rfl rfl ?_
            refine v_dup K dX6_findThird_82 rfl ?_
            refine v_geti K ff_X6_15 (by decide) rfl rfl dX6_findThird_83 ?_
            refine v_eqi ((m9 : Int)) (by rw [z_up_k (by decide), z_up_k (by decide), z_up_k (by decide)]; exact G1) ?_
            refine v_iconst K dX6_findThird_86 ?_
            refine v_iadd K dX6_findThird_87 ?_
            refine v_puti K fp_X6_15 (by decide) rfl rfl dX6_findThird_88 ?_
            refine v_iinc K 0 (fun q9 => [(5, .int (iI q9)), (0, .ref (Q 83)), (1, .ref (Q 21)), (2, .int (iI (nd : Int))), (3, .int (iI (a : Int))), (4, .int (iI (b : Int)))]) dX6_findThird_91 rfl (by decide) (fun _ => rfl) (fun w hw => ?_)
            refine v_goto K 5 dX6_findThird_94 (by decide) ?_
            exact ih (c + 1) _ w (by omega) ((((F.up (Or.inl rfl)).up (Or.inl rfl)).up (Or.inl rfl)).up (Or.inr ⟨rfl, rfl⟩)) (by rw [e1, ← List.append_assoc, hm9]; exact rcD_push (n := 0) G rfl rfl (by omega) rfl) (by omega) (by omega) (by omega)
set_option maxRecDepth 100000 in
set_option maxHeartbeats 4000000 in
theorem c_X6_findThird {l : Launch} {D : va_G} {Z : ZC} {Q : Nat → Nat} {MI ML : ZM} (T9 : Nat → Nat → Int) (nd : Nat) (hnd : nd ≤ 5) (hT : ∀ i j, i < nd → j < nd → MI (22 + i) j = T9 i j) (hT2 : ∀ i j, -2 ≤ T9 i j ∧ T9 i j ≤ 2) (a b : Nat) (ha : a < nd) (hb : b < nd) (l9 : List (Nat × Nat × Nat)) (hl : (l9 ++ rgc T9 a b nd).length ≤ 10) (G : rcD MI l9) (nd9 a9 b9 : Int) (h1 : nd9 = nd) (h2 : a9 = a) (h3 : b9 = b) : C_X6_findThird l D Z Q [.ref (Q 83), .ref (Q 21), .int (iI nd9), .int (iI a9), .int (iI b9)] MI ML (zV fun M L => L = ML ∧ rcF MI M ∧ rcD M (l9 ++ rgc T9 a b nd)) := by
  subst h1
  subst h2
  subst h3
  refine CM.of (by decide +kernel) (Nat.le_of_ble_eq_true rfl) ?_
  intro X K E _ _ _ _
  show V X (0, 0) 110 Q z_rf MI ML 0 [(0, .ref (Q 83)), (1, .ref (Q 21)), (2, .int (iI (nd : Int))), (3, .int (iI (a : Int))), (4, .int (iI (b : Int)))] []
  refine v_iload_n K 3 dX6_findThird_0 rfl rfl ?_
  refine v_iconst K dX6_findThird_1 ?_
  refine v_iadd K dX6_findThird_2 ?_
  refine v_istore K (fun q9 => [(5, .int (iI q9)), (0, .ref (Q 83)), (1, .ref (Q 21)), (2, .int (iI (nd : Int))), (3, .int (iI (a : Int))), (4, .int (iI (b : Int)))]) dX6_findThird_3 (by decide) (fun _ => rfl) (fun z hz => ?_)
  exact l_X6_findThird K T9 nd hnd hT hT2 a b ha hb l9 hl E 6 (a + 1) MI z (by omega) (fun _ _ _ _ => rfl) (by rw [rgc_0 T9 a b (a + 1) (Nat.le_refl _)]; simpa using G) (by omega) (by omega) (by omega)
set_option maxRecDepth 100000 in
set_option maxHeartbeats 4000000 in
theorem l_X6_find_b {X : VX} {Q : Nat → Nat} {MI ML : ZM} (K : VK X cX6_find RX6 5 none 1 25 0 0) (T9 : Nat → Nat → Int) (nd : Nat) (hnd : nd ≤ 5) (hT : ∀ i j, i < nd → j < nd → MI (22 + i) j = T9 i j) (hT2 : ∀ i j, -2 ≤ T9 i j ∧ T9 i j ≤ 2) (a : Nat) (ha : a < nd) (l9 : List (Nat × Nat × Nat)) (hl : (l9 ++ rgb T9 nd a nd).length ≤ 10) (kk : ∀ (M : ZM) (z : Int), rcF MI M → rcD M (l9 ++ rgb T9 nd a nd) → V X (0, 0) 110 Q z_rf M ML 38 [(4, .int (iI z)), (3, .int (iI (a : Int))), (0, .ref (Q 83)), (1, .ref (Q 21)), (2, .int (iI (nd : Int)))] []) : ∀ (n b : Nat) (M : ZM) (z : Int), z = b → rcF MI M → rcD M (l9 ++ rgb T9 nd a b) → a < b → b ≤ nd → nd < b + n → V X (0, 0) 110 Q z_rf M ML 17 [(4, .int (iI z)), (3, .int (iI (a : Int))), (0, .ref (Q 83)), (1, .ref (Q 21)), (2, .int (iI (nd : Int)))] [] := by
  intro n
  induction n with
  | zero => intro b M z hz F G hab hb hn; exact absurd hn (by omega)
  | succ n ih =>
    intro b M z hz F G hab hb hn
    refine v_iload K 0 dX6_find_17 rfl ?_
    refine v_iload_n K 4 dX6_find_19 rfl rfl ?_
    refine v_icmp_ge K 38 ⟨by omega, by omega⟩ ⟨by omega, by omega⟩ dX6_find_20 (by decide) (fun h20 => ?_) (fun h20 => ?_)
    · obtain rfl : b = nd := by omega
      exact kk M z F G
    · have e1 : rgb T9 nd a (b + 1) = rgb T9 nd a b ++ rgc T9 a b nd := by simp only [rgb]; rw [if_pos hab]
      have e2 := rgb_mono T9 nd a (b + 1) (nd - (b + 1))
      rw [show b + 1 + (nd - (b + 1)) = nd by omega, e1] at e2
      simp only [List.length_append] at e2 hl
      refine v_aload_n K 2 dX6_find_23 rfl rfl ?_
      refine v_aload_n K 3 dX6_find_24 rfl rfl ?_
      refine v_iload_n K 4 dX6_find_25 rfl rfl ?_
      refine v_iload_n K 1 dX6_find_26 rfl rfl ?_
      refine v_iload K 0 dX6_find_27 rfl ?_
      refine v_cVv K (c_X6_findThird T9 nd hnd (fun i j h1 h2 => by rw [F _ _ (by omega) (by omega)]; exact hT i j h1 h2) hT2 a b ha (by omega) (l9 ++ rgb T9 nd a b) (by simp only [List.length_append]; omega) G _ _ _ rfl rfl (by omega)) rfl fc_X6_19 wm_X6_findThird ws_X6_findThird (by decide) 6 rfl (by decide) rfl rfl (by decide) (Nat.le_of_ble_eq_true rfl) dX6_find_29 (fun M29 L29 h29 => ?_)
      obtain ⟨hl29, F2, G2⟩ := h29
      subst L29
      rw [List.append_assoc, ← e1] at G2
      refine v_iinc K 0 (fun q9 => [(4, .int (iI q9)), (3, .int (iI (a : Int))), (0, .ref (Q 83)), (1, .ref (Q 21)), (2, .int (iI (nd : Int)))]) dX6_find_32 rfl (by decide) (fun _ => rfl) (fun w hw => ?_)
      refine v_goto K 17 dX6_find_35 (by decide) ?_
      exact ih (b + 1) _ w (by omega) (fun a b q1 q2 => (F2 a b q1 q2).trans (F a b q1 q2)) G2 (by omega) (by omega) (by omega)
set_option maxRecDepth 100000 in
set_option maxHeartbeats 4000000 in
theorem l_X6_find_a {X : VX} {Q : Nat → Nat} {MI ML : ZM} (K : VK X cX6_find RX6 5 none 1 25 0 0) (T9 : Nat → Nat → Int) (nd : Nat) (hnd : nd ≤ 5) (hT : ∀ i j, i < nd → j < nd → MI (22 + i) j = T9 i j) (hT2 : ∀ i j, -2 ≤ T9 i j ∧ T9 i j ≤ 2) (hl : (rgs T9 nd).length ≤ 10) (E : VE X 0 0 110 Q (zq Q (zV fun M L => L = ML ∧ rcF MI M ∧ rcD M (rgs T9 nd)))) : ∀ (n a : Nat) (M : ZM) (z : Int), z = a → rcF MI M → rcD M (rga T9 nd a) → a ≤ nd → nd < a + n → V X (0, 0) 110 Q z_rf M ML 7 [(3, .int (iI z)), (0, .ref (Q 83)), (1, .ref (Q 21)), (2, .int (iI (nd : Int)))] [] := by
  intro n
  induction n with
  | zero => intro a M z hz F G ha hn; exact absurd hn (by omega)
  | succ n ih =>
    intro a M z hz F G ha hn
    refine v_iload_n K 0 dX6_find_7 rfl rfl ?_
    refine v_iload_n K 3 dX6_find_8 rfl rfl ?_
    refine v_icmp_ge K 44 ⟨by omega, by omega⟩ ⟨by omega, by omega⟩ dX6_find_9 (by decide) (fun h9 => ?_) (fun h9 => ?_)
    · obtain rfl : a = nd := by omega
      exact v_rv K E dX6_find_44 ⟨rfl, F, G⟩
    · refine v_iload_n K 0 dX6_find_12 rfl rfl ?_
      refine v_iconst K dX6_find_13 ?_
      refine v_iadd K dX6_find_14 ?_
      refine v_istore K (fun q9 => [(4, .int (iI q9)), (3, .int (iI z)), (0, .ref (Q 83)), (1, .ref (Q 21)), (2, .int (iI (nd : Int)))]) dX6_find_15 (by decide) (fun _ => rfl) (fun y hy => ?_)
      subst hz
      have e1 : rga T9 nd (a + 1) = rga T9 nd a ++ rgb T9 nd a nd := rfl
      have e2 := rga_mono T9 nd (a + 1) (nd - (a + 1))
      rw [show a + 1 + (nd - (a + 1)) = nd by omega, e1] at e2
      have hl2 : (rga T9 nd nd).length ≤ 10 := hl
      refine l_X6_find_b K T9 nd hnd (fun i j h1 h2 => by first | exact hT i j h1 h2 | (rw [F _ _ (by omega) (by omega)]; exact hT i j h1 h2)) hT2 a (by omega) (rga T9 nd a) (by omega) (fun M2 z F2 G2 => ?_) 6 (a + 1) M y (by omega) F (by rw [rgb_0 T9 nd a (a + 1) (Nat.le_refl _)]; simpa using G) (by omega) (by omega) (by omega)
      refine v_iinc K 1 (fun q9 => [(3, .int (iI q9)), (4, .int (iI z)), (0, .ref (Q 83)), (1, .ref (Q 21)), (2, .int (iI (nd : Int)))]) dX6_find_38 rfl (by decide) (fun _ => rfl) (fun v hv => ?_)
      refine v_goto K 7 dX6_find_41 (by decide) ?_
      rw [← e1] at G2
      refine v_sub K [0, 2, 3, 4] rfl ?_
      exact ih (a + 1) _ v (by omega) F2 G2 (by omega) (by omega)
set_option maxRecDepth 100000 in
set_option maxHeartbeats 4000000 in
theorem c_X6_find {l : Launch} {D : va_G} {Z : ZC} {Q : Nat → Nat} {MI ML : ZM} (T9 : Nat → Nat → Int) (nd : Nat) (hnd : nd ≤ 5) (hT : ∀ i j, i < nd → j < nd → MI (22 + i) j = T9 i j) (hT2 : ∀ i j, -2 ≤ T9 i j ∧ T9 i j ≤ 2) (hl : (rgs T9 nd).length ≤ 10) (nd9 : Int) (h1 : nd9 = nd) : C_X6_find l D Z Q [.ref (Q 83), .ref (Q 21), .int (iI nd9)] MI ML (zV fun M L => L = ML ∧ rcF MI M ∧ rcD M (rgs T9 nd)) := by
  subst h1
  refine CM.of (by decide +kernel) (Nat.le_of_ble_eq_true rfl) ?_
  intro X K E _ _ _ _
  show V X (0, 0) 110 Q z_rf MI ML 0 [(0, .ref (Q 83)), (1, .ref (Q 21)), (2, .int (iI (nd : Int)))] []
  refine v_aload_n K 0 dX6_find_0 rfl rfl ?_
  refine v_iconst K dX6_find_1 ?_
  refine v_puti K fp_X6_15 (by decide) rfl rfl dX6_find_2 ?_
  refine v_iconst K dX6_find_5 ?_
  refine v_istore_n K (fun q9 => [(3, .int (iI q9)), (0, .ref (Q 83)), (1, .ref (Q 21)), (2, .int (iI (nd : Int)))]) dX6_find_6 rfl (by decide) (fun _ => rfl) (fun z hz => ?_)
  exact l_X6_find_a K T9 nd hnd hT hT2 hl E 6 0 _ z hz (fun a b q1 q2 => by simp only [z_up]; rw [if_neg (by omega)]) ⟨by rw [z_up_s]; simp [rga], fun i q hq => by simp [rga] at hq⟩ (by omega) (by omega)
