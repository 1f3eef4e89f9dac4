/-! RINGS -/
def rgc (T : Nat → Nat → Int) (a b : Nat) : Nat → List (Nat × Nat × Nat)
  | 0 => []
  | k + 1 => if a < k ∧ 0 < T a b ∧ 0 < T b k ∧ 0 < T k a then rgc T a b k ++ [(a, b, k)] else rgc T a b k
def rgb (T : Nat → Nat → Int) (nd a : Nat) : Nat → List (Nat × Nat × Nat)
  | 0 => []
  | k + 1 => if a < k then rgb T nd a k ++ rgc T a k nd else rgb T nd a k
def rga (T : Nat → Nat → Int) (nd : Nat) : Nat → List (Nat × Nat × Nat)
  | 0 => []
  | k + 1 => rga T nd k ++ rgb T nd k nd
def rgs (T : Nat → Nat → Int) (nd : Nat) : List (Nat × Nat × Nat) := rga T nd nd
theorem rgc_0 (T : Nat → Nat → Int) (a b : Nat) : ∀ k, k ≤ a + 1 → rgc T a b k = [] := by
  intro k
  induction k with
  | zero => intro _; rfl
  | succ k ih => intro h; simp only [rgc]; rw [if_neg (by omega), ih (by omega)]
theorem rgb_0 (T : Nat → Nat → Int) (nd a : Nat) : ∀ k, k ≤ a + 1 → rgb T nd a k = [] := by
  intro k
  induction k with
  | zero => intro _; rfl
  | succ k ih => intro h; simp only [rgb]; rw [if_neg (by omega), ih (by omega)]
/-- what findRings may change -/
def scR (MI M : ZM) : Prop := ∀ a b, (a < 96 ∨ 103 < a) → ¬ (a = 90 ∧ (b = 15 ∨ b = 17 ∨ b = 18 ∨ b = 19)) → M a b = MI a b
theorem scR.co {MI M : ZM} (h : scR MI M) : coM MI M := ⟨fun k h1 h2 => funext fun b => h k b (by omega) (by omega), h 90 0 (by omega) (by decide), h 90 4 (by omega) (by decide), h 90 7 (by omega) (by decide)⟩
/-- within findRings: l are the rings so far; the one at stop is kept -/
def rgD (MI M : ZM) (stop : Int) (l : List (Nat × Nat × Nat)) : Prop := scR MI M ∧ (∀ i j : Nat, (i : Int) < MI 90 4 → (j : Int) < MI 90 4 → M 103 (5 * i + j) = mTab MI i j) ∧ ∀ q : Nat × Nat × Nat, 0 ≤ stop → l[stop.toNat]? = some q → M 90 17 = q.1 ∧ M 90 18 = q.2.1 ∧ M 90 19 = q.2.2
theorem rgD_hit {MI M : ZM} {stop : Int} {l : List (Nat × Nat × Nat)} {a b c : Nat} {v1 v2 v3 : Int} (h : rgD MI M stop l) (e : (l.length : Int) = stop) (e1 : v1 = a) (e2 : v2 = b) (e3 : v3 = c) : rgD MI (z_up (z_up (z_up M 90 17 v1) 90 18 v2) 90 19 v3) stop (l ++ [(a, b, c)]) := by
  obtain ⟨h1, h2, h3⟩ := h
  refine ⟨fun i j q1 q2 => ?_, fun i j q1 q2 => ?_, fun q q0 hq => ?_⟩
  · simp only [z_up]; rw [if_neg (by omega), if_neg (by omega), if_neg (by omega)]; exact h1 i j q1 q2
  · rw [z_up_k (by omega), z_up_k (by omega), z_up_k (by omega)]; exact h2 i j q1 q2
  · rw [show stop.toNat = l.length by omega, List.getElem?_append_right (Nat.le_refl _)] at hq
    simp at hq
    subst hq
    simp [z_up, e1, e2, e3]
theorem rgD_miss {MI M : ZM} {stop : Int} {l : List (Nat × Nat × Nat)} {a b c : Nat} {v1 v2 v3 : Int} (h : rgD MI M stop l) (e : (l.length : Int) ≠ stop) (e1 : v1 = M 90 17) (e2 : v2 = M 90 18) (e3 : v3 = M 90 19) : rgD MI (z_up (z_up (z_up M 90 17 v1) 90 18 v2) 90 19 v3) stop (l ++ [(a, b, c)]) := by
  obtain ⟨h1, h2, h3⟩ := h
  refine ⟨fun i j q1 q2 => ?_, fun i j q1 q2 => ?_, fun q q0 hq => ?_⟩
  · simp only [z_up]; rw [if_neg (by omega), if_neg (by omega), if_neg (by omega)]; exact h1 i j q1 q2
  · rw [z_up_k (by omega), z_up_k (by omega), z_up_k (by omega)]; exact h2 i j q1 q2
  · have hl : stop.toNat < l.length := by
      have := (List.getElem?_eq_some_iff.mp hq).1
      simp at this; omega
    rw [List.getElem?_append_left hl] at hq
    have := h3 q q0 hq
    simp [z_up, e1, e2, e3, this]
theorem mTab_b (MI : ZM) (a b : Nat) : -2 ≤ mTab MI a b ∧ mTab MI a b ≤ 2 := by
  have h1 := gRes_b (mGame MI a b).2
  have h2 := gRes_b (mGame MI b a).2
  unfold mTab mRes; omega
set_option maxRecDepth 100000 in
set_option maxHeartbeats 4000000 in
theorem l_X9_findRings_c {X : VX} {Q : Nat → Nat} {MI ML : ZM} (K : VK X cX9_findRings RX9 6 (some .int) 6 139 0 0) (hM : mOk MI) (stop : Int) (hs : rg stop) (a b : Nat) (ha : (a : Int) < MI 90 4) (hb : (b : Int) < MI 90 4) (l : List (Nat × Nat × Nat)) (hl : l.length ≤ 1000) (kk : ∀ (M : ZM) (m z : Int), m = (l ++ rgc (mTab MI) a b (MI 90 4).toNat).length → rgD MI M stop (l ++ rgc (mTab MI) a b (MI 90 4).toNat) → V X (0, 0) 110 Q z_rf M ML 137 [(5, .int (iI z)), (4, .int (iI (b : Int))), (3, .int (iI (a : Int))), (2, .int (iI m)), (0, .ref (Q 90)), (1, .int (iI stop))] []) : ∀ (n c : Nat) (M : ZM) (m z : Int), z = c → m = (l ++ rgc (mTab MI) a b c).length → rgD MI M stop (l ++ rgc (mTab MI) a b c) → (rgc (mTab MI) a b c).length ≤ c → a < c → (c : Int) ≤ MI 90 4 → MI 90 4 < c + n → V X (0, 0) 110 Q z_rf M ML 35 [(5, .int (iI z)), (4, .int (iI (b : Int))), (3, .int (iI (a : Int))), (2, .int (iI m)), (0, .ref (Q 90)), (1, .int (iI stop))] [] := by
  have u4 := hM.2.1
  intro n
  induction n with
  | zero => intro c M m z hz hm G hlc hac hc hn; exact absurd hn (by omega)
  | succ n ih =>
    intro c M m z hz hm G hlc hac hc hn
    have hm2 : rg m := by
      rw [hm, List.length_append]
      exact ⟨by omega, by omega⟩
    refine v_iload K 0 dX9_findRings_35 rfl ?_
    refine v_aload_n K 4 dX9_findRings_37 rfl rfl ?_
    refine v_geti K ff_X9_79 (by decide) rfl rfl dX9_findRings_38 ?_
    refine v_eqi (MI 90 4) (G.1 90 4 (by omega) (by decide)) ?_
    refine v_icmp_ge K 137 ⟨by omega, by omega⟩ ⟨by omega, by omega⟩ dX9_findRings_41 (by decide) (fun h41 => ?_) (fun h41 => ?_)
    · obtain rfl : c = (MI 90 4).toNat := by omega
      exact kk M m z hm G
    · refine v_aload_n K 4 dX9_findRings_44 rfl rfl ?_
      refine v_iload_n K 2 dX9_findRings_45 rfl rfl ?_
      refine v_iload K 1 dX9_findRings_46 rfl ?_
      refine v_cVi K (c_X9_beats a b (by omega) (by omega) (by rw [G.2.1 a b (by omega) (by omega)]; have := mTab_b MI a b; exact ⟨by omega, by omega⟩) _ _ (by omega) (by omega)) rfl fc_X9_128 wm_X9_beats ws_X9_beats (by decide) 9 rfl (by decide) rfl rfl (by decide) (Nat.le_of_ble_eq_true rfl) dX9_findRings_48 (fun r48 M48 L48 h48 => ?_)
      obtain ⟨hm48, hl48, hr48⟩ := h48
      subst M48 L48
      rw [G.2.1 a b (by omega) (by omega)] at hr48
      refine v_if_eq K 131 ⟨by omega, by omega⟩ dX9_findRings_51 (by decide) (fun h51 => ?_) (fun h51 => ?_)
      · refine v_iinc K 0 (fun q9 => [(5, .int (iI q9)), (4, .int (iI (b : Int))), (3, .int (iI (a : Int))), (2, .int (iI m)), (0, .ref (Q 90)), (1, .int (iI stop))]) dX9_findRings_131 rfl (by decide) (fun _ => rfl) (fun w hw => ?_)
        refine v_goto K 35 dX9_findRings_134 (by decide) ?_
        have e1 : rgc (mTab MI) a b (c + 1) = rgc (mTab MI) a b c := by simp only [rgc]; rw [if_neg (by omega)]
        exact ih (c + 1) M m w (by omega) (by rw [e1]; exact hm) (by rw [e1]; exact G) (by rw [e1]; omega) (by omega) (by omega) (by omega)
      · refine v_aload_n K 4 dX9_findRings_54 rfl rfl ?_
        refine v_iload K 1 dX9_findRings_55 rfl ?_
        refine v_iload K 0 dX9_findRings_57 rfl ?_
        refine v_cVi K (c_X9_beats b c (by omega) (by omega) (by rw [G.2.1 b c (by omega) (by omega)]; have := mTab_b MI b c; exact ⟨by omega, by omega⟩) _ _ (by omega) (by omega)) rfl fc_X9_128 wm_X9_beats ws_X9_beats (by decide) 9 rfl (by decide) rfl rfl (by decide) (Nat.le_of_ble_eq_true rfl) dX9_findRings_59 (fun r59 M59 L59 h59 => ?_)
        obtain ⟨hm59, hl59, hr59⟩ := h59
        subst M59 L59
        rw [G.2.1 b c (by omega) (by omega)] at hr59
        refine v_if_eq K 131 ⟨by omega, by omega⟩ dX9_findRings_62 (by decide) (fun h62 => ?_) (fun h62 => ?_)
        · refine v_iinc K 0 (fun q9 => [(5, .int (iI q9)), (4, .int (iI (b : Int))), (3, .int (iI (a : Int))), (2, .int (iI m)), (0, .ref (Q 90)), (1, .int (iI stop))]) dX9_findRings_131 rfl (by decide) (fun _ => rfl) (fun w hw => ?_)
          refine v_goto K 35 dX9_findRings_134 (by decide) ?_
          have e1 : rgc (mTab MI) a b (c + 1) = rgc (mTab MI) a b c := by simp only [rgc]; rw [if_neg (by omega)]
          exact ih (c + 1) M m w (by omega) (by rw [e1]; exact hm) (by rw [e1]; exact G) (by rw [e1]; omega) (by omega) (by omega) (by omega)
        · refine v_aload_n K 4 dX9_findRings_65 rfl rfl ?_
          refine v_iload K 0 dX9_findRings_66 rfl ?_
          refine v_iload_n K 2 dX9_findRings_68 rfl rfl ?_
          refine v_cVi K (c_X9_beats c a (by omega) (by omega) (by rw [G.2.1 c a (by omega) (by omega)]; have := mTab_b MI c a; exact ⟨by omega, by omega⟩) _ _ (by omega) (by omega)) rfl fc_X9_128 wm_X9_beats ws_X9_beats (by decide) 9 rfl (by decide) rfl rfl (by decide) (Nat.le_of_ble_eq_true rfl) dX9_findRings_69 (fun r69 M69 L69 h69 => ?_)
          obtain ⟨hm69, hl69, hr69⟩ := h69
          subst M69 L69
          rw [G.2.1 c a (by omega) (by omega)] at hr69
          refine v_if_eq K 131 ⟨by omega, by omega⟩ dX9_findRings_72 (by decide) (fun h72 => ?_) (fun h72 => ?_)
          · refine v_iinc K 0 (fun q9 => [(5, .int (iI q9)), (4, .int (iI (b : Int))), (3, .int (iI (a : Int))), (2, .int (iI m)), (0, .ref (Q 90)), (1, .int (iI stop))]) dX9_findRings_131 rfl (by decide) (fun _ => rfl) (fun w hw => ?_)
            refine v_goto K 35 dX9_findRings_134 (by decide) ?_
            have e1 : rgc (mTab MI) a b (c + 1) = rgc (mTab MI) a b c := by simp only [rgc]; rw [if_neg (by omega)]
            exact ih (c + 1) M m w (by omega) (by rw [e1]; exact hm) (by rw [e1]; exact G) (by rw [e1]; omega) (by omega) (by omega) (by omega)
          · refine v_aload_n K 4 dX9_findRings_75 rfl rfl ?_
            refine v_iload_n K 3 dX9_findRings_76 rfl rfl ?_
            refine v_iload_n K 5 dX9_findRings_77 rfl rfl ?_
            refine v_icmp_ne K 85 hm2 hs dX9_findRings_78 (by decide) (fun h78 => ?_) (fun h78 => ?_)
            · refine v_aload_n K 4 dX9_findRings_85 rfl rfl ?_
              refine v_geti K ff_X9_131 (by decide) rfl rfl dX9_findRings_86 ?_
              refine v_puti K fp_X9_131 (by decide) rfl rfl dX9_findRings_89 ?_
              refine v_aload_n K 4 dX9_findRings_92 rfl rfl ?_
              refine v_iload_n K 3 dX9_findRings_93 rfl rfl ?_
              refine v_iload_n K 5 dX9_findRings_94 rfl rfl ?_
              refine v_icmp_ne K 103 hm2 hs dX9_findRings_95 (by decide) (fun h95 => ?_) (fun h95 => ?_)
              · refine v_aload_n K 4 dX9_findRings_103 rfl rfl ?_
                refine v_geti K ff_X9_134 (by decide) rfl rfl dX9_findRings_104 ?_
                refine v_puti K fp_X9_134 (by decide) rfl rfl dX9_findRings_107 ?_
                refine v_aload_n K 4 dX9_findRings_110 rfl rfl ?_
                refine v_iload_n K 3 dX9_findRings_111 rfl rfl ?_
                refine v_iload_n K 5 dX9_findRings_112 rfl rfl ?_
                refine v_icmp_ne K 121 hm2 hs dX9_findRings_113 (by decide) (fun h113 => ?_) (fun h113 => ?_)
                · refine v_aload_n K 4 dX9_findRings_121 rfl rfl ?_
                  refine v_geti K ff_X9_137 (by decide) rfl rfl dX9_findRings_122 ?_
                  refine v_puti K fp_X9_137 (by decide) rfl rfl dX9_findRings_125 ?_
                  refine v_iinc K 3 (fun q9 => [(2, .int (iI q9)), (5, .int (iI z)), (4, .int (iI (b : Int))), (3, .int (iI (a : Int))), (0, .ref (Q 90)), (1, .int (iI stop))]) dX9_findRings_128 rfl (by decide) (fun _ => rfl) (fun v hv => ?_)
                  refine v_iinc K 1 (fun q9 => [(5, .int (iI q9)), (2, .int (iI v)), (4, .int (iI (b : Int))), (3, .int (iI (a : Int))), (0, .ref (Q 90)), (1, .int (iI stop))]) dX9_findRings_131 rfl (by decide) (fun _ => rfl) (fun w hw => ?_)
                  refine v_goto K 35 dX9_findRings_134 (by decide) ?_
                  refine v_sub K [0, 2, 3, 1, 4, 5] rfl ?_
                  have e1 : l ++ rgc (mTab MI) a b (c + 1) = (l ++ rgc (mTab MI) a b c) ++ [(a, b, c)] := by simp only [rgc]; rw [if_pos (by omega), List.append_assoc]
                  have e2 : (rgc (mTab MI) a b (c + 1)).length ≤ c + 1 := by simp only [rgc]; rw [if_pos (by omega)]; simp; omega
                  exact ih (c + 1) _ v w (by omega) (by rw [e1, List.length_append, hv, hm]; simp) (by rw [e1]; first | exact rgD_hit G (by omega) rfl rfl hz | exact rgD_miss G (by omega) (by simp [z_up]) (by simp [z_up]) (by simp [z_up]) | (exfalso; omega)) e2 (by omega) (by omega) (by omega)
                · refine v_iload K 0 dX9_findRings_116 rfl ?_
                  refine v_goto K 125 dX9_findRings_118 (by decide) ?_
                  refine v_puti K fp_X9_137 (by decide) rfl rfl dX9_findRings_125 ?_
                  refine v_iinc K 3 (fun q9 => [(2, .int (iI q9)), (5, .int (iI z)), (4, .int (iI (b : Int))), (3, .int (iI (a : Int))), (0, .ref (Q 90)), (1, .int (iI stop))]) dX9_findRings_128 rfl (by decide) (fun _ => rfl) (fun v hv => ?_)
                  refine v_iinc K 1 (fun q9 => [(5, .int (iI q9)), (2, .int (iI v)), (4, .int (iI (b : Int))), (3, .int (iI (a : Int))), (0, .ref (Q 90)), (1, .int (iI stop))]) dX9_findRings_131 rfl (by decide) (fun _ => rfl) (fun w hw => ?_)
                  refine v_goto K 35 dX9_findRings_134 (by decide) ?_
                  refine v_sub K [0, 2, 3, 1, 4, 5] rfl ?_
                  have e1 : l ++ rgc (mTab MI) a b (c + 1) = (l ++ rgc (mTab MI) a b c) ++ [(a, b, c)] := by simp only [rgc]; rw [if_pos (by omega), List.append_assoc]
                  have e2 : (rgc (mTab MI) a b (c + 1)).length ≤ c + 1 := by simp only [rgc]; rw [if_pos (by omega)]; simp; omega
                  exact ih (c + 1) _ v w (by omega) (by rw [e1, List.length_append, hv, hm]; simp) (by rw [e1]; first | exact rgD_hit G (by omega) rfl rfl hz | exact rgD_miss G (by omega) (by simp [z_up]) (by simp [z_up]) (by simp [z_up]) | (exfalso; omega)) e2 (by omega) (by omega) (by omega)
              · refine v_iload K 1 dX9_findRings_98 rfl ?_
                refine v_goto K 107 dX9_findRings_100 (by decide) ?_
                refine v_puti K fp_X9_134 (by decide) rfl rfl dX9_findRings_107 ?_
                refine v_aload_n K 4 dX9_findRings_110 rfl rfl ?_
                refine v_iload_n K 3 dX9_findRings_111 rfl rfl ?_
                refine v_iload_n K 5 dX9_findRings_112 rfl rfl ?_
                refine v_icmp_ne K 121 hm2 hs dX9_findRings_113 (by decide) (fun h113 => ?_) (fun h113 => ?_)
                · refine v_aload_n K 4 dX9_findRings_121 rfl rfl ?_
                  refine v_geti K ff_X9_137 (by decide) rfl rfl dX9_findRings_122 ?_
                  refine v_puti K fp_X9_137 (by decide) rfl rfl dX9_findRings_125 ?_
                  refine v_iinc K 3 (fun q9 => [(2, .int (iI q9)), (5, .int (iI z)), (4, .int (iI (b : Int))), (3, .int (iI (a : Int))), (0, .ref (Q 90)), (1, .int (iI stop))]) dX9_findRings_128 rfl (by decide) (fun _ => rfl) (fun v hv => ?_)
                  refine v_iinc K 1 (fun q9 => [(5, .int (iI q9)), (2, .int (iI v)), (4, .int (iI (b : Int))), (3, .int (iI (a : Int))), (0, .ref (Q 90)), (1, .int (iI stop))]) dX9_findRings_131 rfl (by decide) (fun _ => rfl) (fun w hw => ?_)
                  refine v_goto K 35 dX9_findRings_134 (by decide) ?_
                  refine v_sub K [0, 2, 3, 1, 4, 5] rfl ?_
                  have e1 : l ++ rgc (mTab MI) a b (c + 1) = (l ++ rgc (mTab MI) a b c) ++ [(a, b, c)] := by simp only [rgc]; rw [if_pos (by omega), List.append_assoc]
                  have e2 : (rgc (mTab MI) a b (c + 1)).length ≤ c + 1 := by simp only [rgc]; rw [if_pos (by omega)]; simp; omega
                  exact ih (c + 1) _ v w (by omega) (by rw [e1, List.length_append, hv, hm]; simp) (by rw [e1]; first | exact rgD_hit G (by omega) rfl rfl hz | exact rgD_miss G (by omega) (by simp [z_up]) (by simp [z_up]) (by simp [z_up]) | (exfalso; omega)) e2 (by omega) (by omega) (by omega)
                · refine v_iload K 0 dX9_findRings_116 rfl ?_
                  refine v_goto K 125 dX9_findRings_118 (by decide) ?_
                  refine v_puti K fp_X9_137 (by decide) rfl rfl dX9_findRings_125 ?_
                  refine v_iinc K 3 (fun q9 => [(2, .int (iI q9)), (5, .int (iI z)), (4, .int (iI (b : Int))), (3, .int (iI (a : Int))), (0, .ref (Q 90)), (1, .int (iI stop))]) dX9_findRings_128 rfl (by decide) (fun _ => rfl) (fun v hv => ?_)
                  refine v_iinc K 1 (fun q9 => [(5, .int (iI q9)), (2, .int (iI v)), (4, .int (iI (b : Int))), (3, .int (iI (a : Int))), (0, .ref (Q 90)), (1, .int (iI stop))]) dX9_findRings_131 rfl (by decide) (fun _ => rfl) (fun w hw => ?_)
                  refine v_goto K 35 dX9_findRings_134 (by decide) ?_
                  refine v_sub K [0, 2, 3, 1, 4, 5] rfl ?_
                  have e1 : l ++ rgc (mTab MI) a b (c + 1) = (l ++ rgc (mTab MI) a b c) ++ [(a, b, c)] := by simp only [rgc]; rw [if_pos (by omega), List.append_assoc]
                  have e2 : (rgc (mTab MI) a b (c + 1)).length ≤ c + 1 := by simp only [rgc]; rw [if_pos (by omega)]; simp; omega
                  exact ih (c + 1) _ v w (by omega) (by rw [e1, List.length_append, hv, hm]; simp) (by rw [e1]; first | exact rgD_hit G (by omega) rfl rfl hz | exact rgD_miss G (by omega) (by simp [z_up]) (by simp [z_up]) (by simp [z_up]) | (exfalso; omega)) e2 (by omega) (by omega) (by omega)
            · refine v_iload_n K 2 dX9_findRings_81 rfl rfl ?_
              refine v_goto K 89 dX9_findRings_82 (by decide) ?_
              refine v_puti K fp_X9_131 (by decide) rfl rfl dX9_findRings_89 ?_
              refine v_aload_n K 4 dX9_findRings_92 rfl rfl ?_
              refine v_iload_n K 3 dX9_findRings_93 rfl rfl ?_
              refine v_iload_n K 5 dX9_findRings_94 rfl rfl ?_
              refine v_icmp_ne K 103 hm2 hs dX9_findRings_95 (by decide) (fun h95 => ?_) (fun h95 => ?_)
              · refine v_aload_n K 4 dX9_findRings_103 rfl rfl ?_
                refine v_geti K ff_X9_134 (by decide) rfl rfl dX9_findRings_104 ?_
                refine v_puti K fp_X9_134 (by decide) rfl rfl dX9_findRings_107 ?_
                refine v_aload_n K 4 dX9_findRings_110 rfl rfl ?_
                refine v_iload_n K 3 dX9_findRings_111 rfl rfl ?_
                refine v_iload_n K 5 dX9_findRings_112 rfl rfl ?_
                refine v_icmp_ne K 121 hm2 hs dX9_findRings_113 (by decide) (fun h113 => ?_) (fun h113 => ?_)
                · refine v_aload_n K 4 dX9_findRings_121 rfl rfl ?_
                  refine v_geti K ff_X9_137 (by decide) rfl rfl dX9_findRings_122 ?_
                  refine v_puti K fp_X9_137 (by decide) rfl rfl dX9_findRings_125 ?_
                  refine v_iinc K 3 (fun q9 => [(2, .int (iI q9)), (5, .int (iI z)), (4, .int (iI (b : Int))), (3, .int (iI (a : Int))), (0, .ref (Q 90)), (1, .int (iI stop))]) dX9_findRings_128 rfl (by decide) (fun _ => rfl) (fun v hv => ?_)
                  refine v_iinc K 1 (fun q9 => [(5, .int (iI q9)), (2, .int (iI v)), (4, .int (iI (b : Int))), (3, .int (iI (a : Int))), (0, .ref (Q 90)), (1, .int (iI stop))]) dX9_findRings_131 rfl (by decide) (fun _ => rfl) (fun w hw => ?_)
                  refine v_goto K 35 dX9_findRings_134 (by decide) ?_
                  refine v_sub K [0, 2, 3, 1, 4, 5] rfl ?_
                  have e1 : l ++ rgc (mTab MI) a b (c + 1) = (l ++ rgc (mTab MI) a b c) ++ [(a, b, c)] := by simp only [rgc]; rw [if_pos (by omega), List.append_assoc]
                  have e2 : (rgc (mTab MI) a b (c + 1)).length ≤ c + 1 := by simp only [rgc]; rw [if_pos (by omega)]; simp; omega
                  exact ih (c + 1) _ v w (by omega) (by rw [e1, List.length_append, hv, hm]; simp) (by rw [e1]; first | exact rgD_hit G (by omega) rfl rfl hz | exact rgD_miss G (by omega) (by simp [z_up]) (by simp [z_up]) (by simp [z_up]) | (exfalso; omega)) e2 (by omega) (by omega) (by omega)
                · refine v_iload K 0 dX9_findRings_116 rfl ?_
                  refine v_goto K 125 dX9_findRings_118 (by decide) ?_
                  refine v_puti K fp_X9_137 (by decide) rfl rfl dX9_findRings_125 ?_
                  refine v_iinc K 3 (fun q9 => [(2, .int (iI q9)), (5, .int (iI z)), (4, .int (iI (b : Int))), (3, .int (iI (a : Int))), (0, .ref (Q 90)), (1, .int (iI stop))]) dX9_findRings_128 rfl (by decide) (fun _ => rfl) (fun v hv => ?_)
                  refine v_iinc K 1 (fun q9 => [(5, .int (iI q9)), (2, .int (iI v)), (4, .int (iI (b : Int))), (3, .int (iI (a : Int))), (0, .ref (Q 90)), (1, .int (iI stop))]) dX9_findRings_131 rfl (by decide) (fun _ => rfl) (fun w hw => ?_)
                  refine v_goto K 35 dX9_findRings_134 (by decide) ?_
                  refine v_sub K [0, 2, 3, 1, 4, 5] rfl ?_
                  have e1 : l ++ rgc (mTab MI) a b (c + 1) = (l ++ rgc (mTab MI) a b c) ++ [(a, b, c)] := by simp only [rgc]; rw [if_pos (by omega), List.append_assoc]
                  have e2 : (rgc (mTab MI) a b (c + 1)).length ≤ c + 1 := by simp only [rgc]; rw [if_pos (by omega)]; simp; omega
                  exact ih (c + 1) _ v w (by omega) (by rw [e1, List.length_append, hv, hm]; simp) (by rw [e1]; first | exact rgD_hit G (by omega) rfl rfl hz | exact rgD_miss G (by omega) (by simp [z_up]) (by simp [z_up]) (by simp [z_up]) | (exfalso; omega)) e2 (by omega) (by omega) (by omega)
              · refine v_iload K 1 dX9_findRings_98 rfl ?_
                refine v_goto K 107 dX9_findRings_100 (by decide) ?_
                refine v_puti K fp_X9_134 (by decide) rfl rfl dX9_findRings_107 ?_
                refine v_aload_n K 4 dX9_findRings_110 rfl rfl ?_
                refine v_iload_n K 3 dX9_findRings_111 rfl rfl ?_
                refine v_iload_n K 5 dX9_findRings_112 rfl rfl ?_
                refine v_icmp_ne K 121 hm2 hs dX9_findRings_113 (by decide) (fun h113 => ?_) (fun h113 => ?_)
                · refine v_aload_n K 4 dX9_findRings_121 rfl rfl ?_
                  refine v_geti K ff_X9_137 (by decide) rfl rfl dX9_findRings_122 ?_
                  refine v_puti K fp_X9_137 (by decide) rfl rfl dX9_findRings_125 ?_
                  refine v_iinc K 3 (fun q9 => [(2, .int (iI q9)), (5, .int (iI z)), (4, .int (iI (b : Int))), (3, .int (iI (a : Int))), (0, .ref (Q 90)), (1, .int (iI stop))]) dX9_findRings_128 rfl (by decide) (fun _ => rfl) (fun v hv => ?_)
                  refine v_iinc K 1 (fun q9 => [(5, .int (iI q9)), (2, .int (iI v)), (4, .int (iI (b : Int))), (3, .int (iI (a : Int))), (0, .ref (Q 90)), (1, .int (iI stop))]) dX9_findRings_131 rfl (by decide) (fun _ => rfl) (fun w hw => ?_)
                  refine v_goto K 35 dX9_findRings_134 (by decide) ?_
                  refine v_sub K [0, 2, 3, 1, 4, 5] rfl ?_
                  have e1 : l ++ rgc (mTab MI) a b (c + 1) = (l ++ rgc (mTab MI) a b c) ++ [(a, b, c)] := by simp only [rgc]; rw [if_pos (by omega), List.append_assoc]
                  have e2 : (rgc (mTab MI) a b (c + 1)).length ≤ c + 1 := by simp only [rgc]; rw [if_pos (by omega)]; simp; omega
                  exact ih (c + 1) _ v w (by omega) (by rw [e1, List.length_append, hv, hm]; simp) (by rw [e1]; first | exact rgD_hit G (by omega) rfl rfl hz | exact rgD_miss G (by omega) (by simp [z_up]) (by simp [z_up]) (by simp [z_up]) | (exfalso; omega)) e2 (by omega) (by omega) (by omega)
                · refine v_iload K 0 dX9_findRings_116 rfl ?_
                  refine v_goto K 125 dX9_findRings_118 (by decide) ?_
                  refine v_puti K fp_X9_137 (by decide) rfl rfl dX9_findRings_125 ?_
                  refine v_iinc K 3 (fun q9 => [(2, .int (iI q9)), (5, .int (iI z)), (4, .int (iI (b : Int))), (3, .int (iI (a : Int))), (0, .ref (Q 90)), (1, .int (iI stop))]) dX9_findRings_128 rfl (by decide) (fun _ => rfl) (fun v hv => ?_)
                  refine v_iinc K 1 (fun q9 => [(5, .int (iI q9)), (2, .int (iI v)), (4, .int (iI (b : Int))), (3, .int (iI (a : Int))), (0, .ref (Q 90)), (1, .int (iI stop))]) dX9_findRings_131 rfl (by decide) (fun _ => rfl) (fun w hw => ?_)
                  refine v_goto K 35 dX9_findRings_134 (by decide) ?_
                  refine v_sub K [0, 2, 3, 1, 4, 5] rfl ?_
                  have e1 : l ++ rgc (mTab MI) a b (c + 1) = (l ++ rgc (mTab MI) a b c) ++ [(a, b, c)] := by simp only [rgc]; rw [if_pos (by omega), List.append_assoc]
                  have e2 : (rgc (mTab MI) a b (c + 1)).length ≤ c + 1 := by simp only [rgc]; rw [if_pos (by omega)]; simp; omega
                  exact ih (c + 1) _ v w (by omega) (by rw [e1, List.length_append, hv, hm]; simp) (by rw [e1]; first | exact rgD_hit G (by omega) rfl rfl hz | exact rgD_miss G (by omega) (by simp [z_up]) (by simp [z_up]) (by simp [z_up]) | (exfalso; omega)) e2 (by omega) (by omega) (by omega)
theorem rgc_len (T : Nat → Nat → Int) (a b : Nat) : ∀ k, (rgc T a b k).length ≤ k := by
  intro k
  induction k with
  | zero => simp [rgc]
  | succ k ih => simp only [rgc]; split <;> (try simp) <;> omega
theorem rgb_len (T : Nat → Nat → Int) (nd a : Nat) : ∀ k, (rgb T nd a k).length ≤ nd * k := by
  intro k
  induction k with
  | zero => simp [rgb]
  | succ k ih =>
    simp only [rgb, Nat.mul_succ]
    have := rgc_len T a k nd
    split <;> (try simp) <;> omega
theorem rga_len (T : Nat → Nat → Int) (nd : Nat) : ∀ k, (rga T nd k).length ≤ nd * nd * k := by
  intro k
  induction k with
  | zero => simp [rga]
  | succ k ih =>
    simp only [rga, Nat.mul_succ, List.length_append]
    have := rgb_len T nd k nd
    omega
set_option maxRecDepth 100000 in
set_option maxHeartbeats 4000000 in
theorem l_X9_findRings_b {X : VX} {Q : Nat → Nat} {MI ML : ZM} (K : VK X cX9_findRings RX9 6 (some .int) 6 139 0 0) (hM : mOk MI) (stop : Int) (hs : rg stop) (a : Nat) (ha : (a : Int) < MI 90 4) (l : List (Nat × Nat × Nat)) (hl : l.length ≤ 500) (kk : ∀ (M : ZM) (m z : Int), m = (l ++ rgb (mTab MI) (MI 90 4).toNat a (MI 90 4).toNat).length → rgD MI M stop (l ++ rgb (mTab MI) (MI 90 4).toNat a (MI 90 4).toNat) → V X (0, 0) 110 Q z_rf M ML 143 [(4, .int (iI z)), (3, .int (iI (a : Int))), (2, .int (iI m)), (0, .ref (Q 90)), (1, .int (iI stop))] []) : ∀ (n b : Nat) (M : ZM) (m z : Int), z = b → m = (l ++ rgb (mTab MI) (MI 90 4).toNat a b).length → rgD MI M stop (l ++ rgb (mTab MI) (MI 90 4).toNat a b) → (rgb (mTab MI) (MI 90 4).toNat a b).length ≤ 5 * b → a < b → (b : Int) ≤ MI 90 4 → MI 90 4 < b + n → V X (0, 0) 110 Q z_rf M ML 21 [(4, .int (iI z)), (3, .int (iI (a : Int))), (2, .int (iI m)), (0, .ref (Q 90)), (1, .int (iI stop))] [] := by
  have u4 := hM.2.1
  intro n
  induction n with
  | zero => intro b M m z hz hm G hlb hab hb hn; exact absurd hn (by omega)
  | succ n ih =>
    intro b M m z hz hm G hlb hab hb hn
    refine v_iload K 0 dX9_findRings_21 rfl ?_
    refine v_aload_n K 3 dX9_findRings_23 rfl rfl ?_
    refine v_geti K ff_X9_79 (by decide) rfl rfl dX9_findRings_24 ?_
    refine v_eqi (MI 90 4) (G.1 90 4 (by omega) (by decide)) ?_
    refine v_icmp_ge K 143 ⟨by omega, by omega⟩ ⟨by omega, by omega⟩ dX9_findRings_27 (by decide) (fun h27 => ?_) (fun h27 => ?_)
    · obtain rfl : b = (MI 90 4).toNat := by omega
      exact kk M m z hm G
    · refine v_iload_n K 1 dX9_findRings_30 rfl rfl ?_
      refine v_iconst K dX9_findRings_31 ?_
      refine v_iadd K dX9_findRings_32 ?_
      refine v_istore K (fun q9 => [(5, .int (iI q9)), (4, .int (iI z)), (3, .int (iI (a : Int))), (2, .int (iI m)), (0, .ref (Q 90)), (1, .int (iI stop))]) dX9_findRings_33 (by decide) (fun _ => rfl) (fun y hy => ?_)
      obtain rfl := hz
      have e0 := rgc_0 (mTab MI) a b (a + 1) (Nat.le_refl _)
      have e1 : rgb (mTab MI) (MI 90 4).toNat a (b + 1) = rgb (mTab MI) (MI 90 4).toNat a b ++ rgc (mTab MI) a b (MI 90 4).toNat := by simp only [rgb]; rw [if_pos hab]
      have e2 := rgc_len (mTab MI) a b (MI 90 4).toNat
      refine l_X9_findRings_c K hM stop hs a b ha (by omega) (l ++ rgb (mTab MI) (MI 90 4).toNat a b) (by rw [List.length_append]; omega) (fun M m z hm G => ?_) 6 (a + 1) M m y (by omega) (by rw [e0]; simpa using hm) (by rw [e0]; simpa using G) (by rw [e0]; simp) (by omega) (by omega) (by omega)
      refine v_iinc K 1 (fun q9 => [(4, .int (iI q9)), (5, .int (iI z)), (3, .int (iI (a : Int))), (2, .int (iI m)), (0, .ref (Q 90)), (1, .int (iI stop))]) dX9_findRings_137 rfl (by decide) (fun _ => rfl) (fun v hv => ?_)
      refine v_goto K 21 dX9_findRings_140 (by decide) ?_
      rw [List.append_assoc, ← e1] at hm G
      refine v_sub K [0, 2, 3, 4, 5] rfl ?_
      exact ih (b + 1) M m v (by omega) hm G (by rw [e1, List.length_append]; omega) (by omega) (by omega) (by omega)
set_option maxRecDepth 100000 in
set_option maxHeartbeats 4000000 in
theorem l_X9_findRings_a {X : VX} {Q : Nat → Nat} {MI ML : ZM} (K : VK X cX9_findRings RX9 6 (some .int) 6 139 0 0) (hM : mOk MI) (stop : Int) (hs : rg stop) (E : VE X 0 0 110 Q (zq Q (zI fun r M L => L = ML ∧ r = (rgs (mTab MI) (MI 90 4).toNat).length ∧ rgD MI M stop (rgs (mTab MI) (MI 90 4).toNat)))) : ∀ (n a : Nat) (M : ZM) (m z : Int), z = a → m = (rga (mTab MI) (MI 90 4).toNat a).length → rgD MI M stop (rga (mTab MI) (MI 90 4).toNat a) → (rga (mTab MI) (MI 90 4).toNat a).length ≤ 25 * a → (a : Int) ≤ MI 90 4 → MI 90 4 < a + n → V X (0, 0) 110 Q z_rf M ML 8 [(3, .int (iI z)), (2, .int (iI m)), (0, .ref (Q 90)), (1, .int (iI stop))] [] := by
  have u4 := hM.2.1
  intro n
  induction n with
  | zero => intro a M m z hz hm G hla ha hn; exact absurd hn (by omega)
  | succ n ih =>
    intro a M m z hz hm G hla ha hn
    refine v_iload_n K 0 dX9_findRings_8 rfl rfl ?_
    refine v_aload_n K 2 dX9_findRings_9 rfl rfl ?_
    refine v_geti K ff_X9_79 (by decide) rfl rfl dX9_findRings_10 ?_
    refine v_eqi (MI 90 4) (G.1 90 4 (by omega) (by decide)) ?_
    refine v_icmp_ge K 149 ⟨by omega, by omega⟩ ⟨by omega, by omega⟩ dX9_findRings_13 (by decide) (fun h13 => ?_) (fun h13 => ?_)
    · obtain rfl : a = (MI 90 4).toNat := by omega
      refine v_iload_n K 1 dX9_findRings_149 rfl rfl ?_
      exact v_ri K E dX9_findRings_150 ⟨rfl, hm, G⟩
    · refine v_iload_n K 0 dX9_findRings_16 rfl rfl ?_
      refine v_iconst K dX9_findRings_17 ?_
      refine v_iadd K dX9_findRings_18 ?_
      refine v_istore K (fun q9 => [(4, .int (iI q9)), (3, .int (iI z)), (2, .int (iI m)), (0, .ref (Q 90)), (1, .int (iI stop))]) dX9_findRings_19 (by decide) (fun _ => rfl) (fun y hy => ?_)
      obtain rfl := hz
      have e0 := rgb_0 (mTab MI) (MI 90 4).toNat a (a + 1) (Nat.le_refl _)
      have e1 : rga (mTab MI) (MI 90 4).toNat (a + 1) = rga (mTab MI) (MI 90 4).toNat a ++ rgb (mTab MI) (MI 90 4).toNat a (MI 90 4).toNat := rfl
      have e2 : (rgb (mTab MI) (MI 90 4).toNat a (MI 90 4).toNat).length ≤ 25 := by have q := rgb_len (mTab MI) (MI 90 4).toNat a (MI 90 4).toNat; have q2 : (MI 90 4).toNat ≤ 5 := (by omega); have q3 : (MI 90 4).toNat * (MI 90 4).toNat ≤ 5 * 5 := Nat.mul_le_mul q2 q2; omega
      refine l_X9_findRings_b K hM stop hs a (by omega) (rga (mTab MI) (MI 90 4).toNat a) (by omega) (fun M m z hm G => ?_) 6 (a + 1) M m y (by omega) (by rw [e0]; simpa using hm) (by rw [e0]; simpa using G) (by rw [e0]; simp) (by omega) (by omega) (by omega)
      refine v_iinc K 1 (fun q9 => [(3, .int (iI q9)), (4, .int (iI z)), (2, .int (iI m)), (0, .ref (Q 90)), (1, .int (iI stop))]) dX9_findRings_143 rfl (by decide) (fun _ => rfl) (fun v hv => ?_)
      refine v_goto K 8 dX9_findRings_146 (by decide) ?_
      rw [← e1] at hm G
      refine v_sub K [0, 2, 3, 4] rfl ?_
      exact ih (a + 1) M m v (by omega) hm G (by rw [e1, List.length_append]; omega) (by omega) (by omega)
set_option maxRecDepth 100000 in
set_option maxHeartbeats 4000000 in
theorem c_X9_findRings {l : Launch} {D : va_G} {Z : ZC} {Q : Nat → Nat} {MI ML : ZM} (hM : mOk MI) (stop : Int) (hs : rg stop) : C_X9_findRings l D Z Q [.ref (Q 90), .int (iI stop)] MI ML (zI fun r M L => L = ML ∧ r = (rgs (mTab MI) (MI 90 4).toNat).length ∧ rgD MI M stop (rgs (mTab MI) (MI 90 4).toNat)) := by
  refine CM.of (by decide +kernel) (Nat.le_of_ble_eq_true rfl) ?_
  intro X K E _ _ _ _
  show V X (0, 0) 110 Q z_rf MI ML 0 [(0, .ref (Q 90)), (1, .int (iI stop))] []
  refine v_aload_n K 0 dX9_findRings_0 rfl rfl ?_
  refine v_cVv K (c_X9_layTables hM) rfl fc_X9_125 wm_X9_layTables ws_X9_layTables (by decide) 9 rfl (by decide) rfl rfl (by decide) (Nat.le_of_ble_eq_true rfl) dX9_findRings_1 (fun M1 L1 h1 => ?_)
  obtain ⟨hl1, h1⟩ := h1
  subst L1
  have u4 := hM.2.1
  refine v_iconst K dX9_findRings_4 ?_
  refine v_istore_n K (fun q9 => [(2, .int (iI q9)), (0, .ref (Q 90)), (1, .int (iI stop))]) dX9_findRings_5 rfl (by decide) (fun _ => rfl) (fun m hm => ?_)
  refine v_iconst K dX9_findRings_6 ?_
  refine v_istore_n K (fun q9 => [(3, .int (iI q9)), (2, .int (iI m)), (0, .ref (Q 90)), (1, .int (iI stop))]) dX9_findRings_7 rfl (by decide) (fun _ => rfl) (fun z hz => ?_)
  have G : rgD MI M1 stop [] := ⟨fun i j q1 q2 => h1.1 i j q1 (by omega), fun i j q1 q2 => h1.2.1 i j (by omega) q2, fun q _ h => by simp at h⟩
  exact l_X9_findRings_a K hM stop hs E 6 0 M1 m z hz hm G (by simp [rga]) (by omega) (by omega)
set_option maxRecDepth 100000 in
set_option maxHeartbeats 4000000 in
theorem c_X9_rings {l : Launch} {D : va_G} {Z : ZC} {Q : Nat → Nat} {MI ML : ZM} (hM : mOk MI) : C_X9_rings l D Z Q [.ref (Q 90)] MI ML (zI fun r M L => L = ML ∧ scR MI M ∧ r = (rgs (mTab MI) (MI 90 4).toNat).length) := by
  refine CM.of (by decide +kernel) (Nat.le_of_ble_eq_true rfl) ?_
  intro X K E _ _ _ _
  show V X (0, 0) 110 Q z_rf MI ML 0 [(0, .ref (Q 90))] []
  refine v_aload_n K 0 dX9_rings_0 rfl rfl ?_
  refine v_iconst K dX9_rings_1 ?_
  refine v_cVi K (c_X9_findRings hM _ ⟨by omega, by omega⟩) rfl fc_X9_140 wm_X9_findRings ws_X9_findRings (by decide) 9 rfl (by decide) rfl rfl (by decide) (Nat.le_of_ble_eq_true rfl) dX9_rings_2 (fun r2 M2 L2 h2 => ?_)
  obtain ⟨hl2, h2r, h2⟩ := h2
  subst L2
  exact v_ri K E dX9_rings_5 ⟨rfl, h2.1, h2r⟩
set_option maxRecDepth 100000 in
set_option maxHeartbeats 4000000 in
theorem c_X9_ring {l : Launch} {D : va_G} {Z : ZC} {Q : Nat → Nat} {MI ML : ZM} (hM : mOk MI) (k j : Int) (hk : rg k) (hj : rg j) : C_X9_ring l D Z Q [.ref (Q 90), .int (iI k), .int (iI j)] MI ML (zI fun r M L => L = ML ∧ scR MI M ∧ ((¬ (0 ≤ k ∧ k < (rgs (mTab MI) (MI 90 4).toNat).length ∧ 0 ≤ j ∧ j ≤ 2) ∧ r = -2) ∨ ((0 ≤ k ∧ k < (rgs (mTab MI) (MI 90 4).toNat).length ∧ 0 ≤ j ∧ j ≤ 2) ∧ (∃ q, (rgs (mTab MI) (MI 90 4).toNat)[k.toNat]? = some q ∧ ((j = 0 ∧ r = q.1) ∨ (j = 1 ∧ r = q.2.1) ∨ (j = 2 ∧ r = q.2.2)))))) := by
  refine CM.of (by decide +kernel) (Nat.le_of_ble_eq_true rfl) ?_
  intro X K E _ _ _ _
  show V X (0, 0) 110 Q z_rf MI ML 0 [(0, .ref (Q 90)), (1, .int (iI k)), (2, .int (iI j))] []
  refine v_iload_n K 2 dX9_ring_0 rfl rfl ?_
  refine v_iconst K dX9_ring_1 ?_
  refine v_iconst K dX9_ring_2 ?_
  refine v_cSi K (c_X9_in _ _ _ hj rg_0 ⟨by omega, by omega⟩) rfl fc_X9_75 wt_X9_in rfl (by decide) (Nat.le_of_ble_eq_true rfl) dX9_ring_3 (fun r3 M3 L3 h3 => ?_)
  obtain ⟨hm3, hl3, hr3⟩ := h3
  subst M3 L3
  refine v_if_eq K 22 ⟨by omega, by omega⟩ dX9_ring_6 (by decide) (fun h6 => ?_) (fun h6 => ?_)
  · refine v_bipush K dX9_ring_22 (by decide) ?_
    exact v_ri K E dX9_ring_24 (by first | exact ⟨rfl, h15.1, Or.inl ⟨by omega, rfl⟩⟩ | exact ⟨rfl, fun _ _ _ _ => rfl, Or.inl ⟨by omega, rfl⟩⟩)
  · refine v_iload_n K 1 dX9_ring_9 rfl rfl ?_
    refine v_if_lt K 22 hk dX9_ring_10 (by decide) (fun h10 => ?_) (fun h10 => ?_)
    · refine v_bipush K dX9_ring_22 (by decide) ?_
      exact v_ri K E dX9_ring_24 (by first | exact ⟨rfl, h15.1, Or.inl ⟨by omega, rfl⟩⟩ | exact ⟨rfl, fun _ _ _ _ => rfl, Or.inl ⟨by omega, rfl⟩⟩)
    · refine v_aload_n K 0 dX9_ring_13 rfl rfl ?_
      refine v_iload_n K 1 dX9_ring_14 rfl rfl ?_
      refine v_cVi K (c_X9_findRings hM _ hk) rfl fc_X9_140 wm_X9_findRings ws_X9_findRings (by decide) 9 rfl (by decide) rfl rfl (by decide) (Nat.le_of_ble_eq_true rfl) dX9_ring_15 (fun r15 M15 L15 h15 => ?_)
      obtain ⟨hl15, h15r, h15⟩ := h15
      subst L15
      have hlen : (rgs (mTab MI) (MI 90 4).toNat).length ≤ 125 := by
        have u4 := hM.2.1
        have q := rga_len (mTab MI) (MI 90 4).toNat (MI 90 4).toNat
        have q2 : (MI 90 4).toNat ≤ 5 := by omega
        have q3 : (MI 90 4).toNat * (MI 90 4).toNat ≤ 5 * 5 := Nat.mul_le_mul q2 q2
        have q4 : (MI 90 4).toNat * (MI 90 4).toNat * (MI 90 4).toNat ≤ 25 * 5 := Nat.mul_le_mul q3 q2
        exact Nat.le_trans q q4
      refine v_iload_n K 1 dX9_ring_18 rfl rfl ?_
      refine v_icmp_gt K 25 ⟨by omega, by omega⟩ hk dX9_ring_19 (by decide) (fun h19 => ?_) (fun h19 => ?_)
      · obtain ⟨q, hq⟩ : ∃ q, (rgs (mTab MI) (MI 90 4).toNat)[k.toNat]? = some q := ⟨_, List.getElem?_eq_getElem (by omega)⟩
        have w := h15.2.2 q (by omega) hq
        refine v_iload_n K 2 dX9_ring_25 rfl rfl ?_
        refine v_if_ne K 36 hj dX9_ring_26 (by decide) (fun h26 => ?_) (fun h26 => ?_)
        · refine v_iload_n K 2 dX9_ring_36 rfl rfl ?_
          refine v_iconst K dX9_ring_37 ?_
          refine v_icmp_ne K 48 hj ⟨by omega, by omega⟩ dX9_ring_38 (by decide) (fun h38 => ?_) (fun h38 => ?_)
          · refine v_aload_n K 0 dX9_ring_48 rfl rfl ?_
            refine v_geti K ff_X9_137 (by decide) rfl rfl dX9_ring_49 ?_
            exact v_ri K E dX9_ring_52 ⟨rfl, h15.1, Or.inr ⟨by omega, q, hq, by omega⟩⟩
          · refine v_aload_n K 0 dX9_ring_41 rfl rfl ?_
            refine v_geti K ff_X9_134 (by decide) rfl rfl dX9_ring_42 ?_
            refine v_goto K 52 dX9_ring_45 (by decide) ?_
            exact v_ri K E dX9_ring_52 ⟨rfl, h15.1, Or.inr ⟨by omega, q, hq, by omega⟩⟩
        · refine v_aload_n K 0 dX9_ring_29 rfl rfl ?_
          refine v_geti K ff_X9_131 (by decide) rfl rfl dX9_ring_30 ?_
          refine v_goto K 52 dX9_ring_33 (by decide) ?_
          exact v_ri K E dX9_ring_52 ⟨rfl, h15.1, Or.inr ⟨by omega, q, hq, by omega⟩⟩
      · refine v_bipush K dX9_ring_22 (by decide) ?_
        exact v_ri K E dX9_ring_24 (by first | exact ⟨rfl, h15.1, Or.inl ⟨by omega, rfl⟩⟩ | exact ⟨rfl, fun _ _ _ _ => rfl, Or.inl ⟨by omega, rfl⟩⟩)
