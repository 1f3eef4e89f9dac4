def scX (MI M : ZM) : Prop := ∀ a b, (a < 96 ∨ 102 < a) → a ≠ 109 → ¬ (a = 90 ∧ b = 15) → M a b = MI a b
theorem scX.co {MI M : ZM} (h : scX MI M) : coM MI M := ⟨fun k h1 h2 => funext fun b => h k b (by omega) (by omega) (by omega), h 90 0 (by omega) (by decide) (by decide), h 90 4 (by omega) (by decide) (by decide), h 90 7 (by omega) (by decide) (by decide)⟩
theorem scX.sc {MI M M' : ZM} (h : scX MI M) (h2 : scM M M') : scX MI M' := fun a b q1 q2 q3 => (h2 a b q1 q3).trans (h a b q1 q2 q3)
def idB (MI M0 M : ZM) (d k : Nat) : Prop := scX M0 M ∧ ∀ b, b < k → M 109 b = mTab MI d b
theorem idB_put {MI M M' : ZM} {d k : Nat} {v : Int} (h : idB MI MI M d k) (h2 : scM M M') (hv : v = mTab M d k) : idB MI MI (z_up M' 109 k v) d (k + 1) := by
  refine ⟨fun a b q1 q2 q3 => ?_, fun b hb => ?_⟩
  · rw [z_up_k q2]; exact (h.1.sc h2) a b q1 q2 q3
  · by_cases e : b = k
    · subst e; rw [z_up_s, hv]; exact h.1.co.tab d b
    · rw [z_up_j e, h2 109 b (by omega) (by omega)]; exact h.2 b (by omega)
/-- the first k TABLES of deck d are the same by two memories -/
def idS (A B : ZM) (d k : Nat) (v : Int) : Prop := (v = 1 ∧ ∀ b, b < k → mTab A d b = mTab B d b) ∨ (v = 0 ∧ ∃ b, b < k ∧ mTab A d b ≠ mTab B d b)
theorem idS_0 {A B : ZM} {d k : Nat} (h : idS A B d k 0) : idS A B d (k + 1) 0 := by
  rcases h with ⟨h, -⟩ | ⟨-, b, h1, h2⟩
  · exact absurd h (by decide)
  · exact Or.inr ⟨rfl, b, by omega, h2⟩
theorem idS_1 {A B : ZM} {d k : Nat} {v : Int} (h : idS A B d k v) (h1 : v ≠ 0) (he : mTab A d k = mTab B d k) : idS A B d (k + 1) 1 := by
  rcases h with ⟨-, h⟩ | ⟨h, -⟩
  · refine Or.inl ⟨rfl, fun b hb => ?_⟩
    by_cases e : b = k
    · subst e; exact he
    · exact h b (by omega)
  · exact absurd h h1
theorem idS_2 {A B : ZM} {d k : Nat} (he : mTab A d k ≠ mTab B d k) : idS A B d (k + 1) 0 := Or.inr ⟨rfl, k, by omega, he⟩
set_option maxRecDepth 100000 in
set_option maxHeartbeats 4000000 in
theorem l_X9_idle_a {X : VX} {Q : Nat → Nat} {MI ML : ZM} (K : VK X cX9_idle RX9 6 (some .int) 5 117 0 0) (hM : mOk MI) (d c : Int) (hd0 : 0 ≤ d) (hd1 : d < MI 90 4) (y : Int) (kk : ∀ (M : ZM) (z : Int), idB MI MI M d.toNat (MI 90 4).toNat → V X (0, 0) 110 Q z_rf M ML 66 [(4, .int (iI z)), (3, .int (iI y)), (0, .ref (Q 90)), (1, .int (iI d)), (2, .int (iI c))] []) : ∀ (n k : Nat) (M : ZM) (z : Int), z = k → idB MI MI M d.toNat k → (k : Int) ≤ MI 90 4 → MI 90 4 < k + n → V X (0, 0) 110 Q z_rf M ML 37 [(4, .int (iI z)), (3, .int (iI y)), (0, .ref (Q 90)), (1, .int (iI d)), (2, .int (iI c))] [] := by
  have u4 := hM.2.1
  intro n
  induction n with
  | zero => intro k M z hz G hk hn; exact absurd hn (by omega)
  | succ n ih =>
    intro k M z hz G hk hn
    refine v_iload K 0 dX9_idle_37 rfl ?_
    refine v_aload_n K 2 dX9_idle_39 rfl rfl ?_
    refine v_geti K ff_X9_79 (by decide) rfl rfl dX9_idle_40 ?_
    refine v_eqi (MI 90 4) (G.1 90 4 (by omega) (by decide) (by decide)) ?_
    refine v_icmp_ge K 66 ⟨by omega, by omega⟩ ⟨by omega, by omega⟩ dX9_idle_43 (by decide) (fun h43 => ?_) (fun h43 => ?_)
    · obtain rfl : k = (MI 90 4).toNat := by omega
      exact kk M z G
    · refine v_aload_n K 2 dX9_idle_46 rfl rfl ?_
      refine v_getr K ff_X9_69 (by decide) rfl rfl rfl dX9_idle_47 ?_
      refine v_iload K 0 dX9_idle_50 rfl ?_
      refine v_aload_n K 2 dX9_idle_52 rfl rfl ?_
      refine v_iload_n K 3 dX9_idle_53 rfl rfl ?_
      refine v_iload K 0 dX9_idle_54 rfl ?_
      refine v_cVi K (c_X9_tableOf (G.1.co.ok hM) d.toNat k (by omega) (by omega) _ _ (by omega) hz) rfl fc_X9_122 wm_X9_tableOf ws_X9_tableOf (by decide) 9 rfl (by decide) rfl rfl (by decide) (Nat.le_of_ble_eq_true rfl) dX9_idle_56 (fun r56 M56 L56 h56 => ?_)
      obtain ⟨hl56, h56s, h56r⟩ := h56
      subst L56
      refine v_iast K (k) (by decide) rfl (by omega) (by show _ < 5; omega) dX9_idle_59 ?_
      refine v_iinc K 0 (fun q9 => [(4, .int (iI q9)), (3, .int (iI y)), (0, .ref (Q 90)), (1, .int (iI d)), (2, .int (iI c))]) dX9_idle_60 rfl (by decide) (fun _ => rfl) (fun w hw => ?_)
      refine v_goto K 37 dX9_idle_63 (by decide) ?_
      exact ih (k + 1) _ w (by omega) (idB_put G h56s h56r) (by omega) (by omega)
set_option maxRecDepth 100000 in
set_option maxHeartbeats 4000000 in
theorem l_X9_idle_b {X : VX} {Q : Nat → Nat} {MI ML : ZM} (K : VK X cX9_idle RX9 6 (some .int) 5 117 0 0) (hM : mOk MI) (d c : Int) (hd0 : 0 ≤ d) (hd1 : d < MI 90 4) (y : Int) (DM : ZM) (hDM : mOk DM) (hDN : DM 90 4 = MI 90 4) (kk : ∀ (M : ZM) (x z : Int), idB MI DM M d.toNat (MI 90 4).toNat → idS MI DM d.toNat (MI 90 4).toNat z → V X (0, 0) 110 Q z_rf M ML 122 [(5, .int (iI x)), (4, .int (iI z)), (3, .int (iI y)), (0, .ref (Q 90)), (1, .int (iI d)), (2, .int (iI c))] []) : ∀ (n k : Nat) (M : ZM) (x z : Int), x = k → idB MI DM M d.toNat (MI 90 4).toNat → idS MI DM d.toNat k z → (k : Int) ≤ MI 90 4 → MI 90 4 < k + n → V X (0, 0) 110 Q z_rf M ML 78 [(5, .int (iI x)), (4, .int (iI z)), (3, .int (iI y)), (0, .ref (Q 90)), (1, .int (iI d)), (2, .int (iI c))] [] := by
  have u4 := hM.2.1
  intro n
  induction n with
  | zero => intro k M x z hx G hS hk hn; exact absurd hn (by omega)
  | succ n ih =>
    intro k M x z hx G hS hk hn
    have hz9 : rg z := by rcases hS with ⟨q, -⟩ | ⟨q, -⟩ <;> exact ⟨by omega, by omega⟩
    refine v_iload K 0 dX9_idle_78 rfl ?_
    refine v_aload_n K 3 dX9_idle_80 rfl rfl ?_
    refine v_geti K ff_X9_79 (by decide) rfl rfl dX9_idle_81 ?_
    refine v_eqi (MI 90 4) (by rw [G.1 90 4 (by omega) (by decide) (by decide)]; exact hDN) ?_
    refine v_icmp_ge K 122 ⟨by omega, by omega⟩ ⟨by omega, by omega⟩ dX9_idle_84 (by decide) (fun h84 => ?_) (fun h84 => ?_)
    · obtain rfl : k = (MI 90 4).toNat := by omega
      exact kk M x z G hS
    · refine v_iload K 1 dX9_idle_87 rfl ?_
      refine v_if_eq K 113 hz9 dX9_idle_89 (by decide) (fun h89 => ?_) (fun h89 => ?_)
      · refine v_iconst K dX9_idle_113 ?_
        refine v_istore K (fun q9 => [(4, .int (iI q9)), (5, .int (iI x)), (3, .int (iI y)), (0, .ref (Q 90)), (1, .int (iI d)), (2, .int (iI c))]) dX9_idle_114 (by decide) (fun _ => rfl) (fun v hv => ?_)
        refine v_iinc K 1 (fun q9 => [(5, .int (iI q9)), (4, .int (iI v)), (3, .int (iI y)), (0, .ref (Q 90)), (1, .int (iI d)), (2, .int (iI c))]) dX9_idle_116 rfl (by decide) (fun _ => rfl) (fun w hw => ?_)
        refine v_goto K 78 dX9_idle_119 (by decide) ?_
        exact ih (k + 1) _ w v (by omega) G (by rw [hv]; rw [h89] at hS; exact idS_0 hS) (by omega) (by omega)
      · refine v_aload_n K 3 dX9_idle_92 rfl rfl ?_
        refine v_getr K ff_X9_69 (by decide) rfl rfl rfl dX9_idle_93 ?_
        refine v_iload K 0 dX9_idle_96 rfl ?_
        refine v_iald K (k) (by decide) rfl (by omega) (by show _ < 5; omega) dX9_idle_98 ?_
        refine v_eqi (mTab MI d.toNat k) (G.2 k (by omega)) ?_
        refine v_aload_n K 3 dX9_idle_99 rfl rfl ?_
        refine v_iload_n K 4 dX9_idle_100 rfl rfl ?_
        refine v_iload K 0 dX9_idle_101 rfl ?_
        refine v_cVi K (c_X9_tableOf (G.1.co.ok hDM) d.toNat k (by omega) (by omega) _ _ (by omega) hx) rfl fc_X9_122 wm_X9_tableOf ws_X9_tableOf (by decide) 9 rfl (by decide) rfl rfl (by decide) (Nat.le_of_ble_eq_true rfl) dX9_idle_103 (fun r103 M103 L103 h103 => ?_)
        obtain ⟨hl103, h103s, h103r⟩ := h103
        subst L103
        rw [G.1.co.tab] at h103r
        have t1 := mTab_b MI d.toNat k
        have t2 := mTab_b DM d.toNat k
        refine v_icmp_ne K 113 ⟨by omega, by omega⟩ ⟨by omega, by omega⟩ dX9_idle_106 (by decide) (fun h106 => ?_) (fun h106 => ?_)
        · refine v_iconst K dX9_idle_113 ?_
          refine v_istore K (fun q9 => [(4, .int (iI q9)), (5, .int (iI x)), (3, .int (iI y)), (0, .ref (Q 90)), (1, .int (iI d)), (2, .int (iI c))]) dX9_idle_114 (by decide) (fun _ => rfl) (fun v hv => ?_)
          refine v_iinc K 1 (fun q9 => [(5, .int (iI q9)), (4, .int (iI v)), (3, .int (iI y)), (0, .ref (Q 90)), (1, .int (iI d)), (2, .int (iI c))]) dX9_idle_116 rfl (by decide) (fun _ => rfl) (fun w hw => ?_)
          refine v_goto K 78 dX9_idle_119 (by decide) ?_
          exact ih (k + 1) _ w v (by omega) ⟨G.1.sc h103s, fun b hb => by rw [h103s 109 b (by omega) (by omega)]; exact G.2 b hb⟩ (by rw [hv]; exact idS_2 (by omega)) (by omega) (by omega)
        · refine v_iconst K dX9_idle_109 ?_
          refine v_goto K 114 dX9_idle_110 (by decide) ?_
          refine v_istore K (fun q9 => [(4, .int (iI q9)), (5, .int (iI x)), (3, .int (iI y)), (0, .ref (Q 90)), (1, .int (iI d)), (2, .int (iI c))]) dX9_idle_114 (by decide) (fun _ => rfl) (fun v hv => ?_)
          refine v_iinc K 1 (fun q9 => [(5, .int (iI q9)), (4, .int (iI v)), (3, .int (iI y)), (0, .ref (Q 90)), (1, .int (iI d)), (2, .int (iI c))]) dX9_idle_116 rfl (by decide) (fun _ => rfl) (fun w hw => ?_)
          refine v_goto K 78 dX9_idle_119 (by decide) ?_
          exact ih (k + 1) _ w v (by omega) ⟨G.1.sc h103s, fun b hb => by rw [h103s 109 b (by omega) (by omega)]; exact G.2 b hb⟩ (by rw [hv]; exact idS_1 hS h89 (by omega)) (by omega) (by omega)
set_option maxRecDepth 100000 in
set_option maxHeartbeats 4000000 in
theorem l_X9_idle_e {X : VX} {Q : Nat → Nat} {MI ML : ZM} (K : VK X cX9_idle RX9 6 (some .int) 5 117 0 0) (hM : mOk MI) (d c : Int) (hd0 : 0 ≤ d) (hd1 : d < MI 90 4) (hc0 : 0 ≤ c) (hc1 : c < MI 90 0) (y : Int) (hy : y = fpl (fun k => MI 95 (10 * d.toNat + k)) c (MI 94 d.toNat).toNat) (hy2 : y ≠ -1) (E : VE X 0 0 110 Q (zq Q (zI fun r M L => L = ML ∧ scX MI M ∧ ((¬ (0 ≤ d ∧ d < MI 90 4 ∧ 0 ≤ c ∧ c < MI 90 0) ∧ r = -2) ∨ ((0 ≤ d ∧ d < MI 90 4 ∧ 0 ≤ c ∧ c < MI 90 0) ∧ fpl (fun k => MI 95 (10 * d.toNat + k)) c (MI 94 d.toNat).toNat = -1 ∧ r = -3) ∨ ((0 ≤ d ∧ d < MI 90 4 ∧ 0 ≤ c ∧ c < MI 90 0) ∧ fpl (fun k => MI 95 (10 * d.toNat + k)) c (MI 94 d.toNat).toNat ≠ -1 ∧ idS MI (drD MI d.toNat (fpl (fun k => MI 95 (10 * d.toNat + k)) c (MI 94 d.toNat).toNat).toNat) d.toNat (MI 90 4).toNat r))))) (M : ZM) (x z : Int) (G : idB MI (drD MI d.toNat (fpl (fun k => MI 95 (10 * d.toNat + k)) c (MI 94 d.toNat).toNat).toNat) M d.toNat (MI 90 4).toNat) (hS : idS MI (drD MI d.toNat (fpl (fun k => MI 95 (10 * d.toNat + k)) c (MI 94 d.toNat).toNat).toNat) d.toNat (MI 90 4).toNat z) : V X (0, 0) 110 Q z_rf M ML 122 [(5, .int (iI x)), (4, .int (iI z)), (3, .int (iI y)), (0, .ref (Q 90)), (1, .int (iI d)), (2, .int (iI c))] [] := by
  have u4 := hM.2.1
  have us := hM.2.2.2.2.1 d.toNat (by omega)
  have b0 := fpl_b (fun k => MI 95 (10 * d.toNat + k)) c (MI 94 d.toNat).toNat
  rw [← hy] at b0 G hS
  have e94 : M 94 d.toNat = MI 94 d.toNat - 1 := by rw [G.1 94 _ (by omega) (by decide) (by omega)]; simp [drD, dropK]
  have hz9 : rg z := by rcases hS with ⟨q, -⟩ | ⟨q, -⟩ <;> exact ⟨by omega, by omega⟩
  refine v_aload_n K 3 dX9_idle_122 rfl rfl ?_
  refine v_iload_n K 4 dX9_idle_123 rfl rfl ?_
  refine v_iload_n K 2 dX9_idle_124 rfl rfl ?_
  refine v_iload_n K 5 dX9_idle_125 rfl rfl ?_
  refine v_cVv K (c_X9_putBack d.toNat y.toNat (by omega) (by rw [e94]; omega) (by rw [e94]; omega) (by rw [e94]; omega) c _ _ (by omega) (by omega)) rfl fc_X9_183 wm_X9_putBack ws_X9_putBack (by decide) 9 rfl (by decide) rfl rfl (by decide) (Nat.le_of_ble_eq_true rfl) dX9_idle_126 (fun M126 L126 h126 => ?_)
  obtain ⟨hl126, hm126⟩ := h126
  subst L126
  have hF : scX MI M126 := by
    intro a b q1 q2 q3
    rw [hm126]
    exact drop_back (MI := MI) (fun a b => ¬ (a < 96 ∨ 102 < a) ∨ a = 109 ∨ (a = 90 ∧ b = 15)) (fun b => by omega) (by omega) (by rcases b0 with q | q; exact absurd q hy2; exact q.2.2) (fun a b q => G.1 a b (by omega) (by omega) (by omega)) a b (by omega)
  refine v_iload K 1 dX9_idle_129 rfl ?_
  refine v_if_eq K 138 hz9 dX9_idle_131 (by decide) (fun h131 => ?_) (fun h131 => ?_)
  · refine v_iconst K dX9_idle_138 ?_
    exact v_ri K E dX9_idle_139 (by
      refine ⟨rfl, hF, Or.inr (Or.inr ⟨by omega, by omega, ?_⟩)⟩
      rw [← hy]
      rcases hS with ⟨q, q2⟩ | ⟨q, q2⟩
      · first | exact absurd q (by omega) | exact Or.inl ⟨rfl, q2⟩
      · first | exact absurd q (by omega) | exact Or.inr ⟨rfl, q2⟩)
  · refine v_iconst K dX9_idle_134 ?_
    refine v_goto K 139 dX9_idle_135 (by decide) ?_
    exact v_ri K E dX9_idle_139 (by
      refine ⟨rfl, hF, Or.inr (Or.inr ⟨by omega, by omega, ?_⟩)⟩
      rw [← hy]
      rcases hS with ⟨q, q2⟩ | ⟨q, q2⟩
      · first | exact absurd q (by omega) | exact Or.inl ⟨rfl, q2⟩
      · first | exact absurd q (by omega) | exact Or.inr ⟨rfl, q2⟩)
set_option maxRecDepth 100000 in
set_option maxHeartbeats 4000000 in
theorem l_X9_idle_m {X : VX} {Q : Nat → Nat} {MI ML : ZM} (K : VK X cX9_idle RX9 6 (some .int) 5 117 0 0) (hM : mOk MI) (d c : Int) (hd0 : 0 ≤ d) (hd1 : d < MI 90 4) (hc0 : 0 ≤ c) (hc1 : c < MI 90 0) (y : Int) (hy : y = fpl (fun k => MI 95 (10 * d.toNat + k)) c (MI 94 d.toNat).toNat) (hy2 : y ≠ -1) (E : VE X 0 0 110 Q (zq Q (zI fun r M L => L = ML ∧ scX MI M ∧ ((¬ (0 ≤ d ∧ d < MI 90 4 ∧ 0 ≤ c ∧ c < MI 90 0) ∧ r = -2) ∨ ((0 ≤ d ∧ d < MI 90 4 ∧ 0 ≤ c ∧ c < MI 90 0) ∧ fpl (fun k => MI 95 (10 * d.toNat + k)) c (MI 94 d.toNat).toNat = -1 ∧ r = -3) ∨ ((0 ≤ d ∧ d < MI 90 4 ∧ 0 ≤ c ∧ c < MI 90 0) ∧ fpl (fun k => MI 95 (10 * d.toNat + k)) c (MI 94 d.toNat).toNat ≠ -1 ∧ idS MI (drD MI d.toNat (fpl (fun k => MI 95 (10 * d.toNat + k)) c (MI 94 d.toNat).toNat).toNat) d.toNat (MI 90 4).toNat r))))) (M : ZM) (z : Int) (G : idB MI MI M d.toNat (MI 90 4).toNat) : V X (0, 0) 110 Q z_rf M ML 66 [(4, .int (iI z)), (3, .int (iI y)), (0, .ref (Q 90)), (1, .int (iI d)), (2, .int (iI c))] [] := by
  have u4 := hM.2.1
  have us := hM.2.2.2.2.1 d.toNat (by omega)
  have b0 := fpl_b (fun k => MI 95 (10 * d.toNat + k)) c (MI 94 d.toNat).toNat
  rw [← hy] at b0
  have e94 : M 94 d.toNat = MI 94 d.toNat := G.1 94 _ (by omega) (by decide) (by omega)
  refine v_aload_n K 2 dX9_idle_66 rfl rfl ?_
  refine v_iload_n K 3 dX9_idle_67 rfl rfl ?_
  refine v_iload_n K 1 dX9_idle_68 rfl rfl ?_
  refine v_cVv K (c_X9_dropAt d.toNat y.toNat (by omega) (by rw [e94]; omega) (by rw [e94]; omega) _ _ (by omega) (by omega)) rfl fc_X9_93 wm_X9_dropAt ws_X9_dropAt (by decide) 9 rfl (by decide) rfl rfl (by decide) (Nat.le_of_ble_eq_true rfl) dX9_idle_69 (fun M69 L69 h69 => ?_)
  obtain ⟨hl69, hm69⟩ := h69
  subst L69
  have G2 : idB MI (drD MI d.toNat y.toNat) M69 d.toNat (MI 90 4).toNat := by
    rw [hm69]
    refine ⟨fun a b q1 q2 q3 => ?_, fun b hb => ?_⟩
    · simp only [drD, dropK]
      rw [e94, G.1 a b q1 q2 q3]
      split
      · rfl
      · split
        · exact G.1 95 _ (by omega) (by decide) (by omega)
        · rfl
    · rw [← G.2 b hb]; simp [dropK]
  refine v_iconst K dX9_idle_72 ?_
  refine v_istore K (fun q9 => [(4, .int (iI q9)), (3, .int (iI y)), (0, .ref (Q 90)), (1, .int (iI d)), (2, .int (iI c))]) dX9_idle_73 (by decide) (fun _ => rfl) (fun v hv => ?_)
  refine v_iconst K dX9_idle_75 ?_
  refine v_istore K (fun q9 => [(5, .int (iI q9)), (4, .int (iI v)), (3, .int (iI y)), (0, .ref (Q 90)), (1, .int (iI d)), (2, .int (iI c))]) dX9_idle_76 (by decide) (fun _ => rfl) (fun w hw => ?_)
  rw [hy] at G2
  exact l_X9_idle_b K hM d c hd0 hd1 y _ (by rw [← hy]; exact dropK_ok hM (by omega) (by omega)) (drD_nd _ _ _) (fun M x z G hS => l_X9_idle_e K hM d c hd0 hd1 hc0 hc1 y hy hy2 E M x z G hS) 6 0 M69 w v hw G2 (Or.inl ⟨hv, fun b hb => absurd hb (by omega)⟩) (by omega) (by omega)
set_option maxRecDepth 100000 in
set_option maxHeartbeats 4000000 in
theorem c_X9_idle {l : Launch} {D : va_G} {Z : ZC} {Q : Nat → Nat} {MI ML : ZM} (hM : mOk MI) (d c : Int) (hd : rg d) (hc : rg c) : C_X9_idle l D Z Q [.ref (Q 90), .int (iI d), .int (iI c)] MI ML (zI fun r M L => L = ML ∧ scX MI M ∧ ((¬ (0 ≤ d ∧ d < MI 90 4 ∧ 0 ≤ c ∧ c < MI 90 0) ∧ r = -2) ∨ ((0 ≤ d ∧ d < MI 90 4 ∧ 0 ≤ c ∧ c < MI 90 0) ∧ fpl (fun k => MI 95 (10 * d.toNat + k)) c (MI 94 d.toNat).toNat = -1 ∧ r = -3) ∨ ((0 ≤ d ∧ d < MI 90 4 ∧ 0 ≤ c ∧ c < MI 90 0) ∧ fpl (fun k => MI 95 (10 * d.toNat + k)) c (MI 94 d.toNat).toNat ≠ -1 ∧ idS MI (drD MI d.toNat (fpl (fun k => MI 95 (10 * d.toNat + k)) c (MI 94 d.toNat).toNat).toNat) d.toNat (MI 90 4).toNat r))) := by
  refine CM.of (by decide +kernel) (Nat.le_of_ble_eq_true rfl) ?_
  intro X K E _ _ _ _
  show V X (0, 0) 110 Q z_rf MI ML 0 [(0, .ref (Q 90)), (1, .int (iI d)), (2, .int (iI c))] []
  have u4 := hM.2.1
  have b0 := fpl_b (fun k => MI 95 (10 * d.toNat + k)) c (MI 94 d.toNat).toNat
  refine v_aload_n K 0 dX9_idle_0 rfl rfl ?_
  refine v_iload_n K 1 dX9_idle_1 rfl rfl ?_
  refine v_cVi K (c_X9_isDeck hM _ hd) rfl fc_X9_86 wm_X9_isDeck ws_X9_isDeck (by decide) 9 rfl (by decide) rfl rfl (by decide) (Nat.le_of_ble_eq_true rfl) dX9_idle_2 (fun r2 M2 L2 h2 => ?_)
  obtain ⟨hm2, hl2, hr2⟩ := h2
  subst M2 L2
  refine v_if_eq K 16 ⟨by omega, by omega⟩ dX9_idle_5 (by decide) (fun h5 => ?_) (fun h5 => ?_)
  · refine v_bipush K dX9_idle_16 (by decide) ?_
    exact v_ri K E dX9_idle_18 ⟨rfl, fun _ _ _ _ _ => rfl, Or.inl ⟨by omega, rfl⟩⟩
  · refine v_aload_n K 0 dX9_idle_8 rfl rfl ?_
    refine v_iload_n K 2 dX9_idle_9 rfl rfl ?_
    refine v_cVi K (c_X9_isCard hM _ hc) rfl fc_X9_82 wm_X9_isCard ws_X9_isCard (by decide) 9 rfl (by decide) rfl rfl (by decide) (Nat.le_of_ble_eq_true rfl) dX9_idle_10 (fun r10 M10 L10 h10 => ?_)
    obtain ⟨hm10, hl10, hr10⟩ := h10
    subst M10 L10
    refine v_if_ne K 19 ⟨by omega, by omega⟩ dX9_idle_13 (by decide) (fun h13 => ?_) (fun h13 => ?_)
    · refine v_aload_n K 0 dX9_idle_19 rfl rfl ?_
      refine v_iload_n K 1 dX9_idle_20 rfl rfl ?_
      refine v_iload_n K 2 dX9_idle_21 rfl rfl ?_
      refine v_cVi K (c_X9_placeOf hM d.toNat (by omega) c hc _ (by omega)) rfl fc_X9_180 wm_X9_placeOf ws_X9_placeOf (by decide) 9 rfl (by decide) rfl rfl (by decide) (Nat.le_of_ble_eq_true rfl) dX9_idle_22 (fun r22 M22 L22 h22 => ?_)
      obtain ⟨hm22, hl22, hr22⟩ := h22
      subst M22 L22
      have us := hM.2.2.2.2.1 d.toNat (by omega)
      refine v_istore_n K (fun q9 => [(3, .int (iI q9)), (0, .ref (Q 90)), (1, .int (iI d)), (2, .int (iI c))]) dX9_idle_25 rfl (by decide) (fun _ => rfl) (fun y hy => ?_)
      refine v_iload_n K 0 dX9_idle_26 rfl rfl ?_
      refine v_iconst K dX9_idle_27 ?_
      refine v_icmp_ne K 34 ⟨by omega, by omega⟩ ⟨by omega, by omega⟩ dX9_idle_28 (by decide) (fun h28 => ?_) (fun h28 => ?_)
      · refine v_iconst K dX9_idle_34 ?_
        refine v_istore K (fun q9 => [(4, .int (iI q9)), (3, .int (iI y)), (0, .ref (Q 90)), (1, .int (iI d)), (2, .int (iI c))]) dX9_idle_35 (by decide) (fun _ => rfl) (fun z hz => ?_)
        exact l_X9_idle_a K hM d c (by omega) (by omega) y (fun M z G => l_X9_idle_m K hM d c (by omega) (by omega) (by omega) (by omega) y (by omega) (by omega) E M z G) 6 0 MI z hz ⟨fun _ _ _ _ _ => rfl, fun b hb => absurd hb (by omega)⟩ (by omega) (by omega)
      · refine v_bipush K dX9_idle_31 (by decide) ?_
        exact v_ri K E dX9_idle_33 ⟨rfl, fun _ _ _ _ _ => rfl, Or.inr (Or.inl ⟨by omega, by omega, rfl⟩)⟩
    · refine v_bipush K dX9_idle_16 (by decide) ?_
      exact v_ri K E dX9_idle_18 ⟨rfl, fun _ _ _ _ _ => rfl, Or.inl ⟨by omega, rfl⟩⟩
