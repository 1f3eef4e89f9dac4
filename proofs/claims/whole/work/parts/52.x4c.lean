theorem mn_T {MI M : ZM} {B N : Nat} (h5 : N ≤ 5) (h : mnK MI M B N (2 ^ N) 1) (R C : Nat) (hR : R < 2 ^ N) (hC : C < 2 ^ N) (hb : bts R 5 = bts C 5) : M (B + 11) (32 * R + C) = dt (wT (cT MI B)) (onL C N) (onL R N) := mn_all h5 h hR hC hb (Or.inl hR)
def mnT (T : Nat → Nat → Int) (M : ZM) (B N : Nat) : Prop := ∀ R C, R < 2 ^ N → C < 2 ^ N → bts R 5 = bts C 5 → M (B + 11) (32 * R + C) = dt (wT T) (onL C N) (onL R N)
def tcK (MI M : ZM) (B : Nat) (c : Nat → Int) (k : Nat) : Prop := (∀ a b, a ≠ B + 10 → ¬ (a = B + 8 ∧ b = 3) → M a b = MI a b) ∧ (∀ q, q < k → M (B + 10) q = c q) ∧ M (B + 8) 3 = sumK c k
theorem tcK_tr {MI M : ZM} {B k : Nat} {c : Nat → Int} {v : Int} (h : tcK MI M B c k) : tcK MI (z_up M (B + 10) k v) B c k := ⟨fun a b h1 h2 => by rw [z_up_k h1]; exact h.1 a b h1 h2, fun q hq => by rw [z_up_j (by omega)]; exact h.2.1 q hq, by rw [z_up_k (by omega)]; exact h.2.2⟩
theorem tcK_put {MI M : ZM} {B k : Nat} {c : Nat → Int} (h : tcK MI M B c k) (hv : M (B + 10) k = c k) : tcK MI (z_up M (B + 8) 3 (sumK c k + c k)) B c (k + 1) := by
  refine ⟨fun a b h1 h2 => by simp only [z_up]; rw [if_neg h2]; exact h.1 a b h1 h2, fun q hq => ?_, z_up_s⟩
  rw [z_up_k (by omega)]
  by_cases e : q = k
  · subst e; exact hv
  · exact h.2.1 q (by omega)
def fgP (c : Nat → Int) (k : Nat) (a : Int) : Prop := (a = 1 ∧ ∃ q, q < k ∧ 0 < c q) ∨ (a = 0 ∧ ∀ q, q < k → c q ≤ 0)
def fgN (c : Nat → Int) (k : Nat) (a : Int) : Prop := (a = 1 ∧ ∃ q, q < k ∧ c q < 0) ∨ (a = 0 ∧ ∀ q, q < k → 0 ≤ c q)
theorem fgP_b {c : Nat → Int} {k : Nat} {a : Int} (h : fgP c k a) : a = 0 ∨ a = 1 := by rcases h with h | h <;> omega
theorem fgN_b {c : Nat → Int} {k : Nat} {a : Int} (h : fgN c k a) : a = 0 ∨ a = 1 := by rcases h with h | h <;> omega
theorem fgP_s {c : Nat → Int} {k : Nat} {a a2 : Int} (h : fgP c k a) (g : (a2 = 1 ∧ (a ≠ 0 ∨ 0 < c k)) ∨ (a2 = 0 ∧ a = 0 ∧ c k ≤ 0)) : fgP c (k + 1) a2 := by
  rcases g with ⟨e, g⟩ | ⟨e, g, g2⟩
  · refine Or.inl ⟨e, ?_⟩
    rcases g with g | g
    · rcases h with ⟨-, q, q1, q2⟩ | ⟨h, -⟩
      · exact ⟨q, by omega, q2⟩
      · exact absurd h g
    · exact ⟨k, by omega, g⟩
  · refine Or.inr ⟨e, fun q hq => ?_⟩
    by_cases e : q = k
    · subst e; exact g2
    · rcases h with ⟨h, -⟩ | ⟨-, h⟩
      · omega
      · exact h q (by omega)
theorem fgN_s {c : Nat → Int} {k : Nat} {a a2 : Int} (h : fgN c k a) (g : (a2 = 1 ∧ (a ≠ 0 ∨ c k < 0)) ∨ (a2 = 0 ∧ a = 0 ∧ 0 ≤ c k)) : fgN c (k + 1) a2 := by
  rcases g with ⟨e, g⟩ | ⟨e, g, g2⟩
  · refine Or.inl ⟨e, ?_⟩
    rcases g with g | g
    · rcases h with ⟨-, q, q1, q2⟩ | ⟨h, -⟩
      · exact ⟨q, by omega, q2⟩
      · exact absurd h g
    · exact ⟨k, by omega, g⟩
  · refine Or.inr ⟨e, fun q hq => ?_⟩
    by_cases e : q = k
    · subst e; exact g2
    · rcases h with ⟨h, -⟩ | ⟨-, h⟩
      · omega
      · exact h q (by omega)
def tcR (M : ZM) (B N : Nat) (c : Nat → Int) (r : Int) : Prop := (r = 1 ∧ (∀ q, q < N → 0 ≤ M (B + 10) q ∧ M (B + 10) q ≤ 10000) ∧ 0 < sumK (M (B + 10)) N ∧ M (B + 8) 3 = sumK (M (B + 10)) N ∧ ((∀ q, q < N → M (B + 10) q = c q) ∨ (∀ q, q < N → M (B + 10) q = - c q))) ∨ (r = 0 ∧ ((∀ q, q < N → c q = 0) ∨ ((∃ q, q < N ∧ 0 < c q) ∧ ∃ q, q < N ∧ c q < 0)))
theorem tcR_1 {M : ZM} {B N : Nat} {c d : Nat → Int} (hc : ∀ i, -10000 ≤ c i ∧ c i ≤ 10000) (hq : ∀ q, q < N → M (B + 10) q = d q) (hs : M (B + 8) 3 = sumK d N) (h0 : ∀ q, q < N → 0 ≤ d q) (hp : ∃ q, q < N ∧ 0 < d q) (hd : (∀ q, q < N → d q = c q) ∨ (∀ q, q < N → d q = - c q)) : tcR M B N c 1 := by
  have e : sumK (M (B + 10)) N = sumK d N := sumK_congr N hq
  have nn := sumK_nn N h0
  refine Or.inl ⟨rfl, fun q h => ?_, ?_, by rw [e]; exact hs, ?_⟩
  · rw [hq q h]
    have a := h0 q h
    have b := hc q
    rcases hd with f | f
    · have := f q h; omega
    · have := f q h; omega
  · rw [e]
    by_cases z : sumK d N = 0
    · obtain ⟨q, q1, q2⟩ := hp
      have := sumK_nz N h0 z q q1
      omega
    · omega
  · rcases hd with f | f
    · exact Or.inl (fun q h => by rw [hq q h]; exact f q h)
    · exact Or.inr (fun q h => by rw [hq q h]; exact f q h)
set_option maxRecDepth 100000 in
set_option maxHeartbeats 4000000 in
theorem l_X4_tryCorner_t {X : VX} {Q : Nat → Nat} {MI ML : ZM} (K : VK X cX4_tryCorner RX4 7 (some .boolean) 1 21 0 0) (B : Nat) (hB : isCt B) (N : Nat) (h5 : N ≤ 5) (m e : Nat) (c : Nat → Int) (hc : ∀ i, -10000 ≤ c i ∧ c i ≤ 10000) (k : Nat) (hk : k < N) (M : ZM) (G : tcK MI M B c k) (hck : M (B + 10) k = c k) (a b s : Int) (ha : fgP c k a) (hb : fgN c k b) (kk : ∀ (M : ZM) (a b : Int), tcK MI M B c (k + 1) → fgP c (k + 1) a → fgN c (k + 1) b → V X (0, 0) 110 Q z_rf M ML 16 [(6, .int (iI ((k + 1 : Nat) : Int))), (5, .int (iI b)), (4, .int (iI a)), (3, .int (iI s)), (0, .ref (Q (B + 8))), (1, .int (iI (m : Int))), (2, .int (iI (e : Int)))] []) : V X (0, 0) 110 Q z_rf M ML 70 [(3, .int (iI s)), (6, .int (iI (k : Int))), (5, .int (iI b)), (4, .int (iI a)), (0, .ref (Q (B + 8))), (1, .int (iI (m : Int))), (2, .int (iI (e : Int)))] [] := by
  have a01 := fgP_b ha
  have b01 := fgN_b hb
  have ck := hc k
  refine v_iload K 3 dX4_tryCorner_70 rfl ?_
  refine v_if_ne K 85 ⟨by omega, by omega⟩ dX4_tryCorner_72 (by decide) (fun h72 => ?_) (fun h72 => ?_)
  · refine v_iconst K dX4_tryCorner_85 ?_
    refine v_goto K 90 dX4_tryCorner_86 (by decide) ?_
    refine v_istore K (fun q9 => [(4, .int (iI q9)), (3, .int (iI s)), (6, .int (iI (k : Int))), (5, .int (iI b)), (0, .ref (Q (B + 8))), (1, .int (iI (m : Int))), (2, .int (iI (e : Int)))]) dX4_tryCorner_90 (by decide) (fun _ => rfl) (fun a2 ha2 => ?_)
    refine v_iload K 3 dX4_tryCorner_92 rfl ?_
    refine v_if_ne K 107 ⟨by omega, by omega⟩ dX4_tryCorner_94 (by decide) (fun h94 => ?_) (fun h94 => ?_)
    · refine v_iconst K dX4_tryCorner_107 ?_
      refine v_goto K 112 dX4_tryCorner_108 (by decide) ?_
      refine v_istore K (fun q9 => [(5, .int (iI q9)), (4, .int (iI a2)), (3, .int (iI s)), (6, .int (iI (k : Int))), (0, .ref (Q (B + 8))), (1, .int (iI (m : Int))), (2, .int (iI (e : Int)))]) dX4_tryCorner_112 (by decide) (fun _ => rfl) (fun b2 hb2 => ?_)
      refine v_aload_n K 4 dX4_tryCorner_114 rfl rfl ?_
      refine v_dup K dX4_tryCorner_115 rfl ?_
      refine v_geti K ff_X4_63 (by have := ct_b hB; omega) (mx_k hB).1 rfl dX4_tryCorner_116 ?_
      refine v_eqi (sumK c k) (G.2.2) ?_
      refine v_aload_n K 4 dX4_tryCorner_119 rfl rfl ?_
      refine v_getr K ff_X4_15 (by have := ct_b hB; omega) (mx_k hB).1 rfl (mx_k hB).2.2.1 dX4_tryCorner_120 ?_
      refine v_iload K 3 dX4_tryCorner_123 rfl ?_
      refine v_iald K (k) (by have := ct_b hB; omega) (mx_l hB).2.2.1 (by omega) (by rw [(mx_l hB).2.2.2.1]; omega) dX4_tryCorner_125 ?_
      refine v_eqi (c k) (hck) ?_
      refine v_iadd K dX4_tryCorner_126 ?_
      refine v_puti K fp_X4_63 (by have := ct_b hB; omega) (mx_k hB).1 rfl dX4_tryCorner_127 ?_
      refine v_iinc K 3 (fun q9 => [(6, .int (iI q9)), (5, .int (iI b2)), (4, .int (iI a2)), (3, .int (iI s)), (0, .ref (Q (B + 8))), (1, .int (iI (m : Int))), (2, .int (iI (e : Int)))]) dX4_tryCorner_130 rfl (by decide) (fun _ => rfl) (fun w hw => ?_)
      refine v_goto K 16 dX4_tryCorner_133 (by decide) ?_
      obtain rfl : w = ((k + 1 : Nat) : Int) := by omega
      exact kk _ _ _ (tcK_put G hck) (fgP_s ha (by omega)) (fgN_s hb (by omega))
    · refine v_aload_n K 4 dX4_tryCorner_97 rfl rfl ?_
      refine v_getr K ff_X4_15 (by have := ct_b hB; omega) (mx_k hB).1 rfl (mx_k hB).2.2.1 dX4_tryCorner_98 ?_
      refine v_iload K 2 dX4_tryCorner_101 rfl ?_
      refine v_iald K (k) (by have := ct_b hB; omega) (mx_l hB).2.2.1 (by omega) (by rw [(mx_l hB).2.2.2.1]; omega) dX4_tryCorner_103 ?_
      refine v_eqi (c k) (hck) ?_
      refine v_if_ge K 111 ⟨by omega, by omega⟩ dX4_tryCorner_104 (by decide) (fun h104 => ?_) (fun h104 => ?_)
      · refine v_iconst K dX4_tryCorner_111 ?_
        refine v_istore K (fun q9 => [(5, .int (iI q9)), (4, .int (iI a2)), (3, .int (iI s)), (6, .int (iI (k : Int))), (0, .ref (Q (B + 8))), (1, .int (iI (m : Int))), (2, .int (iI (e : Int)))]) dX4_tryCorner_112 (by decide) (fun _ => rfl) (fun b2 hb2 => ?_)
        refine v_aload_n K 4 dX4_tryCorner_114 rfl rfl ?_
        refine v_dup K dX4_tryCorner_115 rfl ?_
        refine v_geti K ff_X4_63 (by have := ct_b hB; omega) (mx_k hB).1 rfl dX4_tryCorner_116 ?_
        refine v_eqi (sumK c k) (G.2.2) ?_
        refine v_aload_n K 4 dX4_tryCorner_119 rfl rfl ?_
        refine v_getr K ff_X4_15 (by have := ct_b hB; omega) (mx_k hB).1 rfl (mx_k hB).2.2.1 dX4_tryCorner_120 ?_
        refine v_iload K 3 dX4_tryCorner_123 rfl ?_
        refine v_iald K (k) (by have := ct_b hB; omega) (mx_l hB).2.2.1 (by omega) (by rw [(mx_l hB).2.2.2.1]; omega) dX4_tryCorner_125 ?_
        refine v_eqi (c k) (hck) ?_
        refine v_iadd K dX4_tryCorner_126 ?_
        refine v_puti K fp_X4_63 (by have := ct_b hB; omega) (mx_k hB).1 rfl dX4_tryCorner_127 ?_
        refine v_iinc K 3 (fun q9 => [(6, .int (iI q9)), (5, .int (iI b2)), (4, .int (iI a2)), (3, .int (iI s)), (0, .ref (Q (B + 8))), (1, .int (iI (m : Int))), (2, .int (iI (e : Int)))]) dX4_tryCorner_130 rfl (by decide) (fun _ => rfl) (fun w hw => ?_)
        refine v_goto K 16 dX4_tryCorner_133 (by decide) ?_
        obtain rfl : w = ((k + 1 : Nat) : Int) := by omega
        exact kk _ _ _ (tcK_put G hck) (fgP_s ha (by omega)) (fgN_s hb (by omega))
      · refine v_iconst K dX4_tryCorner_107 ?_
        refine v_goto K 112 dX4_tryCorner_108 (by decide) ?_
        refine v_istore K (fun q9 => [(5, .int (iI q9)), (4, .int (iI a2)), (3, .int (iI s)), (6, .int (iI (k : Int))), (0, .ref (Q (B + 8))), (1, .int (iI (m : Int))), (2, .int (iI (e : Int)))]) dX4_tryCorner_112 (by decide) (fun _ => rfl) (fun b2 hb2 => ?_)
        refine v_aload_n K 4 dX4_tryCorner_114 rfl rfl ?_
        refine v_dup K dX4_tryCorner_115 rfl ?_
        refine v_geti K ff_X4_63 (by have := ct_b hB; omega) (mx_k hB).1 rfl dX4_tryCorner_116 ?_
        refine v_eqi (sumK c k) (G.2.2) ?_
        refine v_aload_n K 4 dX4_tryCorner_119 rfl rfl ?_
        refine v_getr K ff_X4_15 (by have := ct_b hB; omega) (mx_k hB).1 rfl (mx_k hB).2.2.1 dX4_tryCorner_120 ?_
        refine v_iload K 3 dX4_tryCorner_123 rfl ?_
        refine v_iald K (k) (by have := ct_b hB; omega) (mx_l hB).2.2.1 (by omega) (by rw [(mx_l hB).2.2.2.1]; omega) dX4_tryCorner_125 ?_
        refine v_eqi (c k) (hck) ?_
        refine v_iadd K dX4_tryCorner_126 ?_
        refine v_puti K fp_X4_63 (by have := ct_b hB; omega) (mx_k hB).1 rfl dX4_tryCorner_127 ?_
        refine v_iinc K 3 (fun q9 => [(6, .int (iI q9)), (5, .int (iI b2)), (4, .int (iI a2)), (3, .int (iI s)), (0, .ref (Q (B + 8))), (1, .int (iI (m : Int))), (2, .int (iI (e : Int)))]) dX4_tryCorner_130 rfl (by decide) (fun _ => rfl) (fun w hw => ?_)
        refine v_goto K 16 dX4_tryCorner_133 (by decide) ?_
        obtain rfl : w = ((k + 1 : Nat) : Int) := by omega
        exact kk _ _ _ (tcK_put G hck) (fgP_s ha (by omega)) (fgN_s hb (by omega))
  · refine v_aload_n K 4 dX4_tryCorner_75 rfl rfl ?_
    refine v_getr K ff_X4_15 (by have := ct_b hB; omega) (mx_k hB).1 rfl (mx_k hB).2.2.1 dX4_tryCorner_76 ?_
    refine v_iload K 1 dX4_tryCorner_79 rfl ?_
    refine v_iald K (k) (by have := ct_b hB; omega) (mx_l hB).2.2.1 (by omega) (by rw [(mx_l hB).2.2.2.1]; omega) dX4_tryCorner_81 ?_
    refine v_eqi (c k) (hck) ?_
    refine v_if_le K 89 ⟨by omega, by omega⟩ dX4_tryCorner_82 (by decide) (fun h82 => ?_) (fun h82 => ?_)
    · refine v_iconst K dX4_tryCorner_89 ?_
      refine v_istore K (fun q9 => [(4, .int (iI q9)), (3, .int (iI s)), (6, .int (iI (k : Int))), (5, .int (iI b)), (0, .ref (Q (B + 8))), (1, .int (iI (m : Int))), (2, .int (iI (e : Int)))]) dX4_tryCorner_90 (by decide) (fun _ => rfl) (fun a2 ha2 => ?_)
      refine v_iload K 3 dX4_tryCorner_92 rfl ?_
      refine v_if_ne K 107 ⟨by omega, by omega⟩ dX4_tryCorner_94 (by decide) (fun h94 => ?_) (fun h94 => ?_)
      · refine v_iconst K dX4_tryCorner_107 ?_
        refine v_goto K 112 dX4_tryCorner_108 (by decide) ?_
        refine v_istore K (fun q9 => [(5, .int (iI q9)), (4, .int (iI a2)), (3, .int (iI s)), (6, .int (iI (k : Int))), (0, .ref (Q (B + 8))), (1, .int (iI (m : Int))), (2, .int (iI (e : Int)))]) dX4_tryCorner_112 (by decide) (fun _ => rfl) (fun b2 hb2 => ?_)
        refine v_aload_n K 4 dX4_tryCorner_114 rfl rfl ?_
        refine v_dup K dX4_tryCorner_115 rfl ?_
        refine v_geti K ff_X4_63 (by have := ct_b hB; omega) (mx_k hB).1 rfl dX4_tryCorner_116 ?_
        refine v_eqi (sumK c k) (G.2.2) ?_
        refine v_aload_n K 4 dX4_tryCorner_119 rfl rfl ?_
        refine v_getr K ff_X4_15 (by have := ct_b hB; omega) (mx_k hB).1 rfl (mx_k hB).2.2.1 dX4_tryCorner_120 ?_
        refine v_iload K 3 dX4_tryCorner_123 rfl ?_
        refine v_iald K (k) (by have := ct_b hB; omega) (mx_l hB).2.2.1 (by omega) (by rw [(mx_l hB).2.2.2.1]; omega) dX4_tryCorner_125 ?_
        refine v_eqi (c k) (hck) ?_
        refine v_iadd K dX4_tryCorner_126 ?_
        refine v_puti K fp_X4_63 (by have := ct_b hB; omega) (mx_k hB).1 rfl dX4_tryCorner_127 ?_
        refine v_iinc K 3 (fun q9 => [(6, .int (iI q9)), (5, .int (iI b2)), (4, .int (iI a2)), (3, .int (iI s)), (0, .ref (Q (B + 8))), (1, .int (iI (m : Int))), (2, .int (iI (e : Int)))]) dX4_tryCorner_130 rfl (by decide) (fun _ => rfl) (fun w hw => ?_)
        refine v_goto K 16 dX4_tryCorner_133 (by decide) ?_
        obtain rfl : w = ((k + 1 : Nat) : Int) := by omega
        exact kk _ _ _ (tcK_put G hck) (fgP_s ha (by omega)) (fgN_s hb (by omega))
      · refine v_aload_n K 4 dX4_tryCorner_97 rfl rfl ?_
        refine v_getr K ff_X4_15 (by have := ct_b hB; omega) (mx_k hB).1 rfl (mx_k hB).2.2.1 dX4_tryCorner_98 ?_
        refine v_iload K 2 dX4_tryCorner_101 rfl ?_
        refine v_iald K (k) (by have := ct_b hB; omega) (mx_l hB).2.2.1 (by omega) (by rw [(mx_l hB).2.2.2.1]; omega) dX4_tryCorner_103 ?_
        refine v_eqi (c k) (hck) ?_
        refine v_if_ge K 111 ⟨by omega, by omega⟩ dX4_tryCorner_104 (by decide) (fun h104 => ?_) (fun h104 => ?_)
        · refine v_iconst K dX4_tryCorner_111 ?_
          refine v_istore K (fun q9 => [(5, .int (iI q9)), (4, .int (iI a2)), (3, .int (iI s)), (6, .int (iI (k : Int))), (0, .ref (Q (B + 8))), (1, .int (iI (m : Int))), (2, .int (iI (e : Int)))]) dX4_tryCorner_112 (by decide) (fun _ => rfl) (fun b2 hb2 => ?_)
          refine v_aload_n K 4 dX4_tryCorner_114 rfl rfl ?_
          refine v_dup K dX4_tryCorner_115 rfl ?_
          refine v_geti K ff_X4_63 (by have := ct_b hB; omega) (mx_k hB).1 rfl dX4_tryCorner_116 ?_
          refine v_eqi (sumK c k) (G.2.2) ?_
          refine v_aload_n K 4 dX4_tryCorner_119 rfl rfl ?_
          refine v_getr K ff_X4_15 (by have := ct_b hB; omega) (mx_k hB).1 rfl (mx_k hB).2.2.1 dX4_tryCorner_120 ?_
          refine v_iload K 3 dX4_tryCorner_123 rfl ?_
          refine v_iald K (k) (by have := ct_b hB; omega) (mx_l hB).2.2.1 (by omega) (by rw [(mx_l hB).2.2.2.1]; omega) dX4_tryCorner_125 ?_
          refine v_eqi (c k) (hck) ?_
          refine v_iadd K dX4_tryCorner_126 ?_
          refine v_puti K fp_X4_63 (by have := ct_b hB; omega) (mx_k hB).1 rfl dX4_tryCorner_127 ?_
          refine v_iinc K 3 (fun q9 => [(6, .int (iI q9)), (5, .int (iI b2)), (4, .int (iI a2)), (3, .int (iI s)), (0, .ref (Q (B + 8))), (1, .int (iI (m : Int))), (2, .int (iI (e : Int)))]) dX4_tryCorner_130 rfl (by decide) (fun _ => rfl) (fun w hw => ?_)
          refine v_goto K 16 dX4_tryCorner_133 (by decide) ?_
          obtain rfl : w = ((k + 1 : Nat) : Int) := by omega
          exact kk _ _ _ (tcK_put G hck) (fgP_s ha (by omega)) (fgN_s hb (by omega))
        · refine v_iconst K dX4_tryCorner_107 ?_
          refine v_goto K 112 dX4_tryCorner_108 (by decide) ?_
          refine v_istore K (fun q9 => [(5, .int (iI q9)), (4, .int (iI a2)), (3, .int (iI s)), (6, .int (iI (k : Int))), (0, .ref (Q (B + 8))), (1, .int (iI (m : Int))), (2, .int (iI (e : Int)))]) dX4_tryCorner_112 (by decide) (fun _ => rfl) (fun b2 hb2 => ?_)
          refine v_aload_n K 4 dX4_tryCorner_114 rfl rfl ?_
          refine v_dup K dX4_tryCorner_115 rfl ?_
          refine v_geti K ff_X4_63 (by have := ct_b hB; omega) (mx_k hB).1 rfl dX4_tryCorner_116 ?_
          refine v_eqi (sumK c k) (G.2.2) ?_
          refine v_aload_n K 4 dX4_tryCorner_119 rfl rfl ?_
          refine v_getr K ff_X4_15 (by have := ct_b hB; omega) (mx_k hB).1 rfl (mx_k hB).2.2.1 dX4_tryCorner_120 ?_
          refine v_iload K 3 dX4_tryCorner_123 rfl ?_
          refine v_iald K (k) (by have := ct_b hB; omega) (mx_l hB).2.2.1 (by omega) (by rw [(mx_l hB).2.2.2.1]; omega) dX4_tryCorner_125 ?_
          refine v_eqi (c k) (hck) ?_
          refine v_iadd K dX4_tryCorner_126 ?_
          refine v_puti K fp_X4_63 (by have := ct_b hB; omega) (mx_k hB).1 rfl dX4_tryCorner_127 ?_
          refine v_iinc K 3 (fun q9 => [(6, .int (iI q9)), (5, .int (iI b2)), (4, .int (iI a2)), (3, .int (iI s)), (0, .ref (Q (B + 8))), (1, .int (iI (m : Int))), (2, .int (iI (e : Int)))]) dX4_tryCorner_130 rfl (by decide) (fun _ => rfl) (fun w hw => ?_)
          refine v_goto K 16 dX4_tryCorner_133 (by decide) ?_
          obtain rfl : w = ((k + 1 : Nat) : Int) := by omega
          exact kk _ _ _ (tcK_put G hck) (fgP_s ha (by omega)) (fgN_s hb (by omega))
    · refine v_iconst K dX4_tryCorner_85 ?_
      refine v_goto K 90 dX4_tryCorner_86 (by decide) ?_
      refine v_istore K (fun q9 => [(4, .int (iI q9)), (3, .int (iI s)), (6, .int (iI (k : Int))), (5, .int (iI b)), (0, .ref (Q (B + 8))), (1, .int (iI (m : Int))), (2, .int (iI (e : Int)))]) dX4_tryCorner_90 (by decide) (fun _ => rfl) (fun a2 ha2 => ?_)
      refine v_iload K 3 dX4_tryCorner_92 rfl ?_
      refine v_if_ne K 107 ⟨by omega, by omega⟩ dX4_tryCorner_94 (by decide) (fun h94 => ?_) (fun h94 => ?_)
      · refine v_iconst K dX4_tryCorner_107 ?_
        refine v_goto K 112 dX4_tryCorner_108 (by decide) ?_
        refine v_istore K (fun q9 => [(5, .int (iI q9)), (4, .int (iI a2)), (3, .int (iI s)), (6, .int (iI (k : Int))), (0, .ref (Q (B + 8))), (1, .int (iI (m : Int))), (2, .int (iI (e : Int)))]) dX4_tryCorner_112 (by decide) (fun _ => rfl) (fun b2 hb2 => ?_)
        refine v_aload_n K 4 dX4_tryCorner_114 rfl rfl ?_
        refine v_dup K dX4_tryCorner_115 rfl ?_
        refine v_geti K ff_X4_63 (by have := ct_b hB; omega) (mx_k hB).1 rfl dX4_tryCorner_116 ?_
        refine v_eqi (sumK c k) (G.2.2) ?_
        refine v_aload_n K 4 dX4_tryCorner_119 rfl rfl ?_
        refine v_getr K ff_X4_15 (by have := ct_b hB; omega) (mx_k hB).1 rfl (mx_k hB).2.2.1 dX4_tryCorner_120 ?_
        refine v_iload K 3 dX4_tryCorner_123 rfl ?_
        refine v_iald K (k) (by have := ct_b hB; omega) (mx_l hB).2.2.1 (by omega) (by rw [(mx_l hB).2.2.2.1]; omega) dX4_tryCorner_125 ?_
        refine v_eqi (c k) (hck) ?_
        refine v_iadd K dX4_tryCorner_126 ?_
        refine v_puti K fp_X4_63 (by have := ct_b hB; omega) (mx_k hB).1 rfl dX4_tryCorner_127 ?_
        refine v_iinc K 3 (fun q9 => [(6, .int (iI q9)), (5, .int (iI b2)), (4, .int (iI a2)), (3, .int (iI s)), (0, .ref (Q (B + 8))), (1, .int (iI (m : Int))), (2, .int (iI (e : Int)))]) dX4_tryCorner_130 rfl (by decide) (fun _ => rfl) (fun w hw => ?_)
        refine v_goto K 16 dX4_tryCorner_133 (by decide) ?_
        obtain rfl : w = ((k + 1 : Nat) : Int) := by omega
        exact kk _ _ _ (tcK_put G hck) (fgP_s ha (by omega)) (fgN_s hb (by omega))
      · refine v_aload_n K 4 dX4_tryCorner_97 rfl rfl ?_
        refine v_getr K ff_X4_15 (by have := ct_b hB; omega) (mx_k hB).1 rfl (mx_k hB).2.2.1 dX4_tryCorner_98 ?_
        refine v_iload K 2 dX4_tryCorner_101 rfl ?_
        refine v_iald K (k) (by have := ct_b hB; omega) (mx_l hB).2.2.1 (by omega) (by rw [(mx_l hB).2.2.2.1]; omega) dX4_tryCorner_103 ?_
        refine v_eqi (c k) (hck) ?_
        refine v_if_ge K 111 ⟨by omega, by omega⟩ dX4_tryCorner_104 (by decide) (fun h104 => ?_) (fun h104 => ?_)
        · refine v_iconst K dX4_tryCorner_111 ?_
          refine v_istore K (fun q9 => [(5, .int (iI q9)), (4, .int (iI a2)), (3, .int (iI s)), (6, .int (iI (k : Int))), (0, .ref (Q (B + 8))), (1, .int (iI (m : Int))), (2, .int (iI (e : Int)))]) dX4_tryCorner_112 (by decide) (fun _ => rfl) (fun b2 hb2 => ?_)
          refine v_aload_n K 4 dX4_tryCorner_114 rfl rfl ?_
          refine v_dup K dX4_tryCorner_115 rfl ?_
          refine v_geti K ff_X4_63 (by have := ct_b hB; omega) (mx_k hB).1 rfl dX4_tryCorner_116 ?_
          refine v_eqi (sumK c k) (G.2.2) ?_
          refine v_aload_n K 4 dX4_tryCorner_119 rfl rfl ?_
          refine v_getr K ff_X4_15 (by have := ct_b hB; omega) (mx_k hB).1 rfl (mx_k hB).2.2.1 dX4_tryCorner_120 ?_
          refine v_iload K 3 dX4_tryCorner_123 rfl ?_
          refine v_iald K (k) (by have := ct_b hB; omega) (mx_l hB).2.2.1 (by omega) (by rw [(mx_l hB).2.2.2.1]; omega) dX4_tryCorner_125 ?_
          refine v_eqi (c k) (hck) ?_
          refine v_iadd K dX4_tryCorner_126 ?_
          refine v_puti K fp_X4_63 (by have := ct_b hB; omega) (mx_k hB).1 rfl dX4_tryCorner_127 ?_
          refine v_iinc K 3 (fun q9 => [(6, .int (iI q9)), (5, .int (iI b2)), (4, .int (iI a2)), (3, .int (iI s)), (0, .ref (Q (B + 8))), (1, .int (iI (m : Int))), (2, .int (iI (e : Int)))]) dX4_tryCorner_130 rfl (by decide) (fun _ => rfl) (fun w hw => ?_)
          refine v_goto K 16 dX4_tryCorner_133 (by decide) ?_
          obtain rfl : w = ((k + 1 : Nat) : Int) := by omega
          exact kk _ _ _ (tcK_put G hck) (fgP_s ha (by omega)) (fgN_s hb (by omega))
        · refine v_iconst K dX4_tryCorner_107 ?_
          refine v_goto K 112 dX4_tryCorner_108 (by decide) ?_
          refine v_istore K (fun q9 => [(5, .int (iI q9)), (4, .int (iI a2)), (3, .int (iI s)), (6, .int (iI (k : Int))), (0, .ref (Q (B + 8))), (1, .int (iI (m : Int))), (2, .int (iI (e : Int)))]) dX4_tryCorner_112 (by decide) (fun _ => rfl) (fun b2 hb2 => ?_)
          refine v_aload_n K 4 dX4_tryCorner_114 rfl rfl ?_
          refine v_dup K dX4_tryCorner_115 rfl ?_
          refine v_geti K ff_X4_63 (by have := ct_b hB; omega) (mx_k hB).1 rfl dX4_tryCorner_116 ?_
          refine v_eqi (sumK c k) (G.2.2) ?_
          refine v_aload_n K 4 dX4_tryCorner_119 rfl rfl ?_
          refine v_getr K ff_X4_15 (by have := ct_b hB; omega) (mx_k hB).1 rfl (mx_k hB).2.2.1 dX4_tryCorner_120 ?_
          refine v_iload K 3 dX4_tryCorner_123 rfl ?_
          refine v_iald K (k) (by have := ct_b hB; omega) (mx_l hB).2.2.1 (by omega) (by rw [(mx_l hB).2.2.2.1]; omega) dX4_tryCorner_125 ?_
          refine v_eqi (c k) (hck) ?_
          refine v_iadd K dX4_tryCorner_126 ?_
          refine v_puti K fp_X4_63 (by have := ct_b hB; omega) (mx_k hB).1 rfl dX4_tryCorner_127 ?_
          refine v_iinc K 3 (fun q9 => [(6, .int (iI q9)), (5, .int (iI b2)), (4, .int (iI a2)), (3, .int (iI s)), (0, .ref (Q (B + 8))), (1, .int (iI (m : Int))), (2, .int (iI (e : Int)))]) dX4_tryCorner_130 rfl (by decide) (fun _ => rfl) (fun w hw => ?_)
          refine v_goto K 16 dX4_tryCorner_133 (by decide) ?_
          obtain rfl : w = ((k + 1 : Nat) : Int) := by omega
          exact kk _ _ _ (tcK_put G hck) (fgP_s ha (by omega)) (fgN_s hb (by omega))
set_option maxRecDepth 100000 in
set_option maxHeartbeats 4000000 in
theorem l_X4_tryCorner {X : VX} {Q : Nat → Nat} {MI ML : ZM} (K : VK X cX4_tryCorner RX4 7 (some .boolean) 1 21 0 0) (B : Nat) (hB : isCt B) (N : Nat) (hN : MI (B + 8) 5 = N) (h1 : 1 ≤ N) (h5 : N ≤ 5) (T : Nat → Nat → Int) (hQ : mnT T MI B N) (m e : Nat) (hm : m < 2 ^ N) (he : e < 2 ^ N) (hbe : bts e 5 + 1 = bts m 5) (c : Nat → Int) (hcc : ∀ i, c i = crn T (onL m N) (onL e N) i) (hc : ∀ i, -10000 ≤ c i ∧ c i ≤ 10000) (E : VE X 0 0 110 Q (zq Q (zI fun r M L => L = ML ∧ (∀ a b, a ≠ B + 10 → ¬ (a = B + 8 ∧ b = 3) → M a b = MI a b) ∧ tcR M B N c r))) : ∀ (n k : Nat) (M : ZM) (a b : Int), tcK MI M B c k → fgP c k a → fgN c k b → k ≤ N → N < k + n → V X (0, 0) 110 Q z_rf M ML 16 [(6, .int (iI (k : Int))), (5, .int (iI b)), (4, .int (iI a)), (3, .int (iI (sg (bts m k)))), (0, .ref (Q (B + 8))), (1, .int (iI (m : Int))), (2, .int (iI (e : Int)))] [] := by
  intro n
  induction n with
  | zero => intro k M a b G ha hb hk hn; exact absurd hn (by omega)
  | succ n ih =>
    intro k M a b G ha hb hk hn
    refine v_iload K 0 dX4_tryCorner_16 rfl ?_
    refine v_aload_n K 4 dX4_tryCorner_18 rfl rfl ?_
    refine v_geti K ff_X4_21 (by have := ct_b hB; omega) (mx_k hB).1 rfl dX4_tryCorner_19 ?_
    refine v_eqi ((N : Int)) ((G.1 _ _ (by omega) (by omega)).trans hN) ?_
    refine v_icmp_ge K 136 ⟨by omega, by omega⟩ ⟨by omega, by omega⟩ dX4_tryCorner_22 (by decide) (fun h22 => ?_) (fun h22 => ?_)
    · obtain e9 : k = N := (by omega)
      rw [e9] at G ha hb
      have a01 := fgP_b ha
      have b01 := fgN_b hb
      refine v_iload K 1 dX4_tryCorner_136 rfl ?_
      refine v_if_eq K 145 ⟨by omega, by omega⟩ dX4_tryCorner_138 (by decide) (fun h138 => ?_) (fun h138 => ?_)
      · refine v_iload K 2 dX4_tryCorner_145 rfl ?_
        refine v_iload K 1 dX4_tryCorner_147 rfl ?_
        refine v_icmp_eq K 156 ⟨by omega, by omega⟩ ⟨by omega, by omega⟩ dX4_tryCorner_149 (by decide) (fun h149 => ?_) (fun h149 => ?_)
        · refine v_iconst K dX4_tryCorner_156 ?_
          exact v_rz K E (by omega) dX4_tryCorner_157 (by
          have cc : ∀ q, q < N → (0 ≤ c q ∨ c q ≤ 0) := fun q _ => by omega
          refine ⟨rfl, ?_, ?_⟩
          · first
              | exact G.1
              | exact fun x y h1 h2 => (f142 x y h1 h2).trans (G.1 x y h1 h2)
          · rcases ha with ⟨a1, a2⟩ | ⟨a1, a2⟩ <;> rcases hb with ⟨b1, b2⟩ | ⟨b1, b2⟩ <;>
            first
              | exact absurd h138 (by omega)
              | exact absurd h149 (by omega)
              | exact Or.inr ⟨rfl, Or.inr ⟨a2, b2⟩⟩
              | exact Or.inr ⟨rfl, Or.inl (fun q hq => by have := a2 q hq; have := b2 q hq; omega)⟩
              | exact tcR_1 hc G.2.1 G.2.2 b2 a2 (Or.inl (fun _ _ => rfl))
              | exact tcR_1 (d := fun q => - c q) hc (fun q hq => by rw [q142 q hq, G.2.1 q hq]) (by rw [s142, G.2.2, sumK_neg]) (fun q hq => by have := a2 q hq; show 0 ≤ - c q; omega) (by obtain ⟨q, q1, q2⟩ := b2; exact ⟨q, q1, by show 0 < - c q; omega⟩) (Or.inr (fun _ _ => rfl)))
        · refine v_iconst K dX4_tryCorner_152 ?_
          refine v_goto K 157 dX4_tryCorner_153 (by decide) ?_
          exact v_rz K E (by omega) dX4_tryCorner_157 (by
          have cc : ∀ q, q < N → (0 ≤ c q ∨ c q ≤ 0) := fun q _ => by omega
          refine ⟨rfl, ?_, ?_⟩
          · first
              | exact G.1
              | exact fun x y h1 h2 => (f142 x y h1 h2).trans (G.1 x y h1 h2)
          · rcases ha with ⟨a1, a2⟩ | ⟨a1, a2⟩ <;> rcases hb with ⟨b1, b2⟩ | ⟨b1, b2⟩ <;>
            first
              | exact absurd h138 (by omega)
              | exact absurd h149 (by omega)
              | exact Or.inr ⟨rfl, Or.inr ⟨a2, b2⟩⟩
              | exact Or.inr ⟨rfl, Or.inl (fun q hq => by have := a2 q hq; have := b2 q hq; omega)⟩
              | exact tcR_1 hc G.2.1 G.2.2 b2 a2 (Or.inl (fun _ _ => rfl))
              | exact tcR_1 (d := fun q => - c q) hc (fun q hq => by rw [q142 q hq, G.2.1 q hq]) (by rw [s142, G.2.2, sumK_neg]) (fun q hq => by have := a2 q hq; show 0 ≤ - c q; omega) (by obtain ⟨q, q1, q2⟩ := b2; exact ⟨q, q1, by show 0 < - c q; omega⟩) (Or.inr (fun _ _ => rfl)))
      · refine v_aload_n K 4 dX4_tryCorner_141 rfl rfl ?_
        refine v_cVv K (c_X4_turnSigns B hB N ((G.1 _ _ (by omega) (by omega)).trans hN) h1 h5) rfl fc_X4_66 wm_X4_turnSigns ws_X4_turnSigns (by have := ct_b hB; omega) 4 (mx_k hB).1 (by decide) rfl rfl (by decide) (Nat.le_of_ble_eq_true rfl) dX4_tryCorner_142 (fun M142 L142 h142 => ?_)
        obtain ⟨hl142, f142, q142, s142⟩ := h142
        subst L142
        refine v_iload K 2 dX4_tryCorner_145 rfl ?_
        refine v_iload K 1 dX4_tryCorner_147 rfl ?_
        refine v_icmp_eq K 156 ⟨by omega, by omega⟩ ⟨by omega, by omega⟩ dX4_tryCorner_149 (by decide) (fun h149 => ?_) (fun h149 => ?_)
        · refine v_iconst K dX4_tryCorner_156 ?_
          exact v_rz K E (by omega) dX4_tryCorner_157 (by
          have cc : ∀ q, q < N → (0 ≤ c q ∨ c q ≤ 0) := fun q _ => by omega
          refine ⟨rfl, ?_, ?_⟩
          · first
              | exact G.1
              | exact fun x y h1 h2 => (f142 x y h1 h2).trans (G.1 x y h1 h2)
          · rcases ha with ⟨a1, a2⟩ | ⟨a1, a2⟩ <;> rcases hb with ⟨b1, b2⟩ | ⟨b1, b2⟩ <;>
            first
              | exact absurd h138 (by omega)
              | exact absurd h149 (by omega)
              | exact Or.inr ⟨rfl, Or.inr ⟨a2, b2⟩⟩
              | exact Or.inr ⟨rfl, Or.inl (fun q hq => by have := a2 q hq; have := b2 q hq; omega)⟩
              | exact tcR_1 hc G.2.1 G.2.2 b2 a2 (Or.inl (fun _ _ => rfl))
              | exact tcR_1 (d := fun q => - c q) hc (fun q hq => by rw [q142 q hq, G.2.1 q hq]) (by rw [s142, G.2.2, sumK_neg]) (fun q hq => by have := a2 q hq; show 0 ≤ - c q; omega) (by obtain ⟨q, q1, q2⟩ := b2; exact ⟨q, q1, by show 0 < - c q; omega⟩) (Or.inr (fun _ _ => rfl)))
        · refine v_iconst K dX4_tryCorner_152 ?_
          refine v_goto K 157 dX4_tryCorner_153 (by decide) ?_
          exact v_rz K E (by omega) dX4_tryCorner_157 (by
          have cc : ∀ q, q < N → (0 ≤ c q ∨ c q ≤ 0) := fun q _ => by omega
          refine ⟨rfl, ?_, ?_⟩
          · first
              | exact G.1
              | exact fun x y h1 h2 => (f142 x y h1 h2).trans (G.1 x y h1 h2)
          · rcases ha with ⟨a1, a2⟩ | ⟨a1, a2⟩ <;> rcases hb with ⟨b1, b2⟩ | ⟨b1, b2⟩ <;>
            first
              | exact absurd h138 (by omega)
              | exact absurd h149 (by omega)
              | exact Or.inr ⟨rfl, Or.inr ⟨a2, b2⟩⟩
              | exact Or.inr ⟨rfl, Or.inl (fun q hq => by have := a2 q hq; have := b2 q hq; omega)⟩
              | exact tcR_1 hc G.2.1 G.2.2 b2 a2 (Or.inl (fun _ _ => rfl))
              | exact tcR_1 (d := fun q => - c q) hc (fun q hq => by rw [q142 q hq, G.2.1 q hq]) (by rw [s142, G.2.2, sumK_neg]) (fun q hq => by have := a2 q hq; show 0 ≤ - c q; omega) (by obtain ⟨q, q1, q2⟩ := b2; exact ⟨q, q1, by show 0 < - c q; omega⟩) (Or.inr (fun _ _ => rfl)))
    · have m32 := lt32 h5 hm
      have e32 := lt32 h5 he
      have bb := bt1_b m k
      have es : bts m (k + 1) = bts m k + bt1 m k := rfl
      refine v_aload_n K 4 dX4_tryCorner_25 rfl rfl ?_
      refine v_getr K ff_X4_15 (by have := ct_b hB; omega) (mx_k hB).1 rfl (mx_k hB).2.2.1 dX4_tryCorner_26 ?_
      refine v_iload K 0 dX4_tryCorner_29 rfl ?_
      refine v_iconst K dX4_tryCorner_31 ?_
      refine v_iast K (k) (by have := ct_b hB; omega) (mx_l hB).2.2.1 (by omega) (by rw [(mx_l hB).2.2.2.1]; omega) dX4_tryCorner_32 ?_
      have G1 := tcK_tr (v := 0) G
      refine v_iload_n K 5 dX4_tryCorner_33 rfl rfl ?_
      refine v_iload K 0 dX4_tryCorner_34 rfl ?_
      refine v_cSi K (c_X4_isIn m k m32 (by omega) _ _ rfl rfl) rfl fc_X4_60 wt_X4_isIn rfl (by decide) (Nat.le_of_ble_eq_true rfl) dX4_tryCorner_36 (fun r36 M36 L36 h36 => ?_)
      obtain ⟨hm36, hl36, hr36⟩ := h36
      subst M36 L36
      refine v_if_eq K 70 ⟨by omega, by omega⟩ dX4_tryCorner_39 (by decide) (fun h39 => ?_) (fun h39 => ?_)
      · refine v_sub K [3, 0, 1, 2, 4, 5, 6] rfl ?_
        refine l_X4_tryCorner_t (MI := MI) (ML := ML) K B hB N h5 m e c hc k (by omega) _ G1 (by rw [z_up_s, hcc]; exact (cf_out _ _ _ (fun h => by have := (onL_m.mp h).2; omega)).symm) a b _ ha hb (fun M a b G ha hb => ?_)
        rw [show sg (bts m k) = sg (bts m (k + 1)) by rw [es]; congr 1; omega]
        exact ih (k + 1) _ _ _ G ha hb (by omega) (by omega)
      · have hb1 : bt1 m k = 1 := by omega
        have dc := onL_dec m m32 N (by omega) k (by omega) hb1
        have p2 : m - 2 ^ k ≤ m := Nat.sub_le _ _
        refine v_aload_n K 4 dX4_tryCorner_42 rfl rfl ?_
        refine v_getr K ff_X4_15 (by have := ct_b hB; omega) (mx_k hB).1 rfl (mx_k hB).2.2.1 dX4_tryCorner_43 ?_
        refine v_iload K 0 dX4_tryCorner_46 rfl ?_
        refine v_iload_n K 3 dX4_tryCorner_48 rfl rfl ?_
        refine v_aload_n K 4 dX4_tryCorner_49 rfl rfl ?_
        refine v_getr K ff_X4_18 (by have := ct_b hB; omega) (mx_k hB).1 rfl (mx_k hB).2.2.2 dX4_tryCorner_50 ?_
        refine v_iload_n K 5 dX4_tryCorner_53 rfl rfl ?_
        refine v_iconst K dX4_tryCorner_54 ?_
        refine v_iload K 0 dX4_tryCorner_55 rfl ?_
        refine v_ishl K (((2 ^ k : Nat) : Int)) (shl_1 k (by omega)) dX4_tryCorner_57 ?_
        refine v_ixor K (((m - 2 ^ k : Nat) : Int)) (dc.2.2.1) dX4_tryCorner_58 ?_
        refine v_bipush K dX4_tryCorner_59 (by decide) ?_
        refine v_imul K dX4_tryCorner_61 ?_
        refine v_iload_n K 6 dX4_tryCorner_62 rfl rfl ?_
        refine v_iadd K dX4_tryCorner_63 ?_
        refine v_iald K (32 * (m - 2 ^ k) + e) (by have := ct_b hB; omega) (mx_l hB).2.2.2.2.1 (by omega) (by rw [(mx_l hB).2.2.2.2.2]; omega) dX4_tryCorner_64 ?_
        refine v_eqi (dt (wT T) (onL e N) (onL (m - 2 ^ k) N)) ((by
          rw [z_up_k (by omega), G.1 _ _ (by omega) (by omega)]
          exact hQ _ _ (by omega) he (by omega))) ?_
        refine v_imul K dX4_tryCorner_65 ?_
        refine v_iast K (k) (by have := ct_b hB; omega) (mx_l hB).2.2.1 (by omega) (by rw [(mx_l hB).2.2.2.1]; omega) dX4_tryCorner_66 ?_
        refine v_iload_n K 3 dX4_tryCorner_67 rfl rfl ?_
        refine v_ineg K dX4_tryCorner_68 ?_
        refine v_istore_n K (fun q9 => [(3, .int (iI q9)), (6, .int (iI (k : Int))), (5, .int (iI b)), (4, .int (iI a)), (0, .ref (Q (B + 8))), (1, .int (iI (m : Int))), (2, .int (iI (e : Int)))]) dX4_tryCorner_69 rfl (by decide) (fun _ => rfl) (fun g2 hg2 => ?_)
        obtain rfl : g2 = sg (bts m (k + 1)) := by rw [hg2, es, hb1, sg_s]
        refine l_X4_tryCorner_t (MI := MI) (ML := ML) K B hB N h5 m e c hc k (by omega) _ (tcK_tr G1) (by rw [z_up_s, hcc]; exact (cf_on m32 (by omega) (by omega) hb1 _).symm) a b _ ha hb (fun M a b G ha hb => ?_)
        exact ih (k + 1) _ _ _ G ha hb (by omega) (by omega)
set_option maxRecDepth 100000 in
set_option maxHeartbeats 4000000 in
theorem c_X4_tryCorner {l : Launch} {D : va_G} {Z : ZC} {Q : Nat → Nat} {MI ML : ZM} (B : Nat) (hB : isCt B) (N : Nat) (hN : MI (B + 8) 5 = N) (h1 : 1 ≤ N) (h5 : N ≤ 5) (T : Nat → Nat → Int) (hQ : mnT T MI B N) (m e : Nat) (hm : m < 2 ^ N) (he : e < 2 ^ N) (hbe : bts e 5 + 1 = bts m 5) (c : Nat → Int) (hcc : ∀ i, c i = crn T (onL m N) (onL e N) i) (hc : ∀ i, -10000 ≤ c i ∧ c i ≤ 10000) (m9 e9 : Int) (hm9 : m9 = m) (he9 : e9 = e) : C_X4_tryCorner l D Z Q [.ref (Q (B + 8)), .int (iI m9), .int (iI e9)] MI ML (zI fun r M L => L = ML ∧ (∀ a b, a ≠ B + 10 → ¬ (a = B + 8 ∧ b = 3) → M a b = MI a b) ∧ tcR M B N c r) := by
  subst hm9 he9
  refine CM.of (by decide +kernel) (Nat.le_of_ble_eq_true rfl) ?_
  intro X K E _ _ _ _
  show V X (0, 0) 110 Q z_rf MI ML 0 [(0, .ref (Q (B + 8))), (1, .int (iI (m : Int))), (2, .int (iI (e : Int)))] []
  refine v_iconst K dX4_tryCorner_0 ?_
  refine v_istore_n K (fun q9 => [(3, .int (iI q9)), (0, .ref (Q (B + 8))), (1, .int (iI (m : Int))), (2, .int (iI (e : Int)))]) dX4_tryCorner_1 rfl (by decide) (fun _ => rfl) (fun g hg => ?_)
  refine v_iconst K dX4_tryCorner_2 ?_
  refine v_istore K (fun q9 => [(4, .int (iI q9)), (3, .int (iI g)), (0, .ref (Q (B + 8))), (1, .int (iI (m : Int))), (2, .int (iI (e : Int)))]) dX4_tryCorner_3 (by decide) (fun _ => rfl) (fun a ha => ?_)
  refine v_iconst K dX4_tryCorner_5 ?_
  refine v_istore K (fun q9 => [(5, .int (iI q9)), (4, .int (iI a)), (3, .int (iI g)), (0, .ref (Q (B + 8))), (1, .int (iI (m : Int))), (2, .int (iI (e : Int)))]) dX4_tryCorner_6 (by decide) (fun _ => rfl) (fun b hb => ?_)
  refine v_aload_n K 3 dX4_tryCorner_8 rfl rfl ?_
  refine v_iconst K dX4_tryCorner_9 ?_
  refine v_puti K fp_X4_63 (by have := ct_b hB; omega) (mx_k hB).1 rfl dX4_tryCorner_10 ?_
  refine v_iconst K dX4_tryCorner_13 ?_
  refine v_istore K (fun q9 => [(6, .int (iI q9)), (5, .int (iI b)), (4, .int (iI a)), (3, .int (iI g)), (0, .ref (Q (B + 8))), (1, .int (iI (m : Int))), (2, .int (iI (e : Int)))]) dX4_tryCorner_14 (by decide) (fun _ => rfl) (fun k0 hk0 => ?_)
  subst hk0 ha hb hg
  exact l_X4_tryCorner K B hB N hN h1 h5 T hQ m e hm he hbe c hcc hc E 6 0 _ 0 0 ⟨fun a b h1 h2 => by simp only [z_up]; rw [if_neg h2], fun q h => absurd h (by omega), z_up_s⟩ (Or.inr ⟨rfl, fun q h => absurd h (by omega)⟩) (Or.inr ⟨rfl, fun q h => absurd h (by omega)⟩) (by omega) (by omega)
