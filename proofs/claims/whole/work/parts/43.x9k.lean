/-- the table as the reference lays it -/
def rT (MI : ZM) (i c : Nat) : Int := MI 103 (5 * i + c)
theorem bts_le {m a : Nat} : ∀ b, a ≤ b → bts m a ≤ bts m b := by
  intro b
  induction b with
  | zero => intro h; obtain rfl : a = 0 := (by omega); exact Nat.le_refl _
  | succ b ih =>
    intro h
    by_cases e : a = b + 1
    · rw [e]; exact Nat.le_refl _
    · have := ih (by omega); simp only [bts]; omega
theorem bts_lt {m a b : Nat} (h : a < b) (h1 : bt1 m a = 1) : bts m a < bts m b := by
  have := bts_le (m := m) b (show a + 1 ≤ b by omega)
  simp only [bts] at this
  omega
def lb0 (ML L : ZM) (k : Nat) : Prop := (∀ c j, c ≠ 104 → L c j = ML c j) ∧ ∀ i, i < k → L 104 i = 1
theorem lb0_put {ML L : ZM} {k : Nat} {v : Int} (h : lb0 ML L k) (hv : v = 1) : lb0 ML (z_up L 104 k v) (k + 1) := by
  refine ⟨fun c j q => ?_, fun i hi => ?_⟩
  · rw [z_up_k q]; exact h.1 c j q
  · by_cases e : i = k
    · subst e; rw [z_up_s, hv]
    · rw [z_up_j e]; exact h.2 i (by omega)
def lbK (MI ML L : ZM) (m N k : Nat) : Prop := (∀ c j, c ≠ 104 → L c j = ML c j) ∧ (∀ i, i < N ∨ i = 5 → L 104 i = 1) ∧ ∀ q, q < k → bt1 m q = 1 → (∀ i, i < N → L 104 (6 * (1 + bts m q) + i) = ct (rT MI) N q i) ∧ L 104 (6 * (1 + bts m q) + 5) = 0
def lbI (MI ML L : ZM) (m N k i : Nat) : Prop := lbK MI ML L m N k ∧ ∀ q, q < i → L 104 (6 * (1 + bts m k) + q) = ct (rT MI) N k q
theorem lbI_put {MI ML L : ZM} {m N k i : Nat} {v : Int} (h : lbI MI ML L m N k i) (hi : i < N) (h5 : N ≤ 5) (hv : v = ct (rT MI) N k i) : lbI MI ML (z_up L 104 (6 * (1 + bts m k) + i) v) m N k (i + 1) := by
  obtain ⟨⟨h1, h2, h3⟩, h4⟩ := h
  refine ⟨⟨fun c j q => ?_, fun a ha => ?_, fun q hq hb => ?_⟩, fun q hq => ?_⟩
  · rw [z_up_k q]; exact h1 c j q
  · rw [z_up_j (by omega)]; exact h2 a ha
  · have := bts_lt hq hb
    refine ⟨fun a ha => ?_, ?_⟩
    · rw [z_up_j (by omega)]; exact (h3 q hq hb).1 a ha
    · rw [z_up_j (by omega)]; exact (h3 q hq hb).2
  · by_cases e : q = i
    · subst e; rw [z_up_s, hv]
    · rw [z_up_j (by omega)]; exact h4 q (by omega)
theorem lbK_put {MI ML L : ZM} {m N k : Nat} {v : Int} (h : lbI MI ML L m N k N) (h5 : N ≤ 5) (hv : v = 0) : lbK MI ML (z_up L 104 (6 * (1 + bts m k) + 5) v) m N (k + 1) := by
  obtain ⟨⟨h1, h2, h3⟩, h4⟩ := h
  refine ⟨fun c j q => ?_, fun a ha => ?_, fun q hq hb => ?_⟩
  · rw [z_up_k q]; exact h1 c j q
  · rw [z_up_j (by omega)]; exact h2 a ha
  · by_cases e : q = k
    · subst e
      refine ⟨fun a ha => ?_, ?_⟩
      · rw [z_up_j (by omega)]; exact h4 a ha
      · rw [z_up_s, hv]
    · have := bts_lt (show q < k by omega) hb
      refine ⟨fun a ha => ?_, ?_⟩
      · rw [z_up_j (by omega)]; exact (h3 q (by omega) hb).1 a ha
      · rw [z_up_j (by omega)]; exact (h3 q (by omega) hb).2
theorem lbK_no {MI ML L : ZM} {m N k : Nat} (h : lbK MI ML L m N k) (hb : bt1 m k ≠ 1) : lbK MI ML L m N (k + 1) := ⟨h.1, h.2.1, fun q hq hq1 => h.2.2 q (by by_cases e : q = k; (subst e; exact absurd hq1 hb); omega) hq1⟩
set_option maxRecDepth 100000 in
set_option maxHeartbeats 4000000 in
theorem l_X9_layBounds_a {X : VX} {Q : Nat → Nat} {MI ML : ZM} (K : VK X cX9_layBounds RX9 5 none 0 0 0 0) (N : Nat) (hN : MI 90 4 = N) (h1 : 1 ≤ N) (h5 : N ≤ 5) (m : Nat) (kk : ∀ (L : ZM) (y : Int), lb0 ML L N → V X (0, 0) 110 Q z_rf MI L 23 [(2, .int (iI y)), (0, .ref (Q 90)), (1, .int (iI (m : Int)))] []) : ∀ (n k : Nat) (L : ZM) (y : Int), y = k → lb0 ML L k → k ≤ N → N < k + n → V X (0, 0) 110 Q z_rf MI L 2 [(2, .int (iI y)), (0, .ref (Q 90)), (1, .int (iI (m : Int)))] [] := by
  intro n
  induction n with
  | zero => intro k L y hy G hk hn; exact absurd hn (by omega)
  | succ n ih =>
    intro k L y hy G hk hn
    refine v_iload_n K 0 dX9_layBounds_2 rfl rfl ?_
    refine v_aload_n K 1 dX9_layBounds_3 rfl rfl ?_
    refine v_geti K ff_X9_79 (by decide) rfl rfl dX9_layBounds_4 ?_
    refine v_eqi ((N : Int)) (hN) ?_
    refine v_icmp_ge K 23 ⟨by omega, by omega⟩ ⟨by omega, by omega⟩ dX9_layBounds_7 (by decide) (fun h7 => ?_) (fun h7 => ?_)
    · obtain rfl : k = N := by omega
      exact kk L y G
    · refine v_aload_n K 1 dX9_layBounds_10 rfl rfl ?_
      refine v_getr K ff_X9_53 (by decide) rfl rfl rfl dX9_layBounds_11 ?_
      refine v_iload_n K 0 dX9_layBounds_14 rfl rfl ?_
      refine v_lconst K 1 dX9_layBounds_15 rfl ?_
      refine v_last K (k) (by decide) rfl (by omega) (by show _ < 30; omega) dX9_layBounds_16 ?_
      refine v_iinc K 0 (fun q9 => [(2, .int (iI q9)), (0, .ref (Q 90)), (1, .int (iI (m : Int)))]) dX9_layBounds_17 rfl (by decide) (fun _ => rfl) (fun w hw => ?_)
      refine v_goto K 2 dX9_layBounds_20 (by decide) ?_
      exact ih (k + 1) _ w (by omega) (lb0_put G rfl) (by omega) (by omega)
set_option maxRecDepth 100000 in
set_option maxHeartbeats 4000000 in
theorem l_X9_layBounds_c {X : VX} {Q : Nat → Nat} {MI ML : ZM} (K : VK X cX9_layBounds RX9 5 none 0 0 0 0) (N : Nat) (hN : MI 90 4 = N) (h1 : 1 ≤ N) (h5 : N ≤ 5) (m : Nat) (hm : m < 1024) (hc : bts m (2 * N) + 1 ≤ N) (hT : ∀ i k, i < N → k < N → -2 ≤ MI 103 (5 * i + k) ∧ MI 103 (5 * i + k) ≤ 2) (k : Nat) (hk : k < 2 * N) (hb : bt1 m k = 1) (x : Int) (hx : x = ((1 + bts m k : Nat) : Int)) (kk : ∀ (L : ZM) (y : Int), lbI MI ML L m N k N → V X (0, 0) 110 Q z_rf MI L 122 [(4, .int (iI y)), (3, .int (iI (k : Int))), (2, .int (iI x)), (0, .ref (Q 90)), (1, .int (iI (m : Int)))] []) : ∀ (n a : Nat) (L : ZM) (y : Int), y = a → lbI MI ML L m N k a → a ≤ N → N < a + n → V X (0, 0) 110 Q z_rf MI L 56 [(4, .int (iI y)), (3, .int (iI (k : Int))), (2, .int (iI x)), (0, .ref (Q 90)), (1, .int (iI (m : Int)))] [] := by
  have hc2 := bts_lt hk hb
  intro n
  induction n with
  | zero => intro a L y hy G ha hn; exact absurd hn (by omega)
  | succ n ih =>
    intro a L y hy G ha hn
    refine v_iload K 0 dX9_layBounds_56 rfl ?_
    refine v_aload_n K 3 dX9_layBounds_58 rfl rfl ?_
    refine v_geti K ff_X9_79 (by decide) rfl rfl dX9_layBounds_59 ?_
    refine v_eqi ((N : Int)) (hN) ?_
    refine v_icmp_ge K 122 ⟨by omega, by omega⟩ ⟨by omega, by omega⟩ dX9_layBounds_62 (by decide) (fun h62 => ?_) (fun h62 => ?_)
    · obtain rfl : a = N := by omega
      exact kk L y G
    · refine v_aload_n K 3 dX9_layBounds_65 rfl rfl ?_
      refine v_getr K ff_X9_53 (by decide) rfl rfl rfl dX9_layBounds_66 ?_
      refine v_bipush K dX9_layBounds_69 (by decide) ?_
      refine v_iload_n K 2 dX9_layBounds_71 rfl rfl ?_
      refine v_imul K dX9_layBounds_72 ?_
      refine v_iload K 0 dX9_layBounds_73 rfl ?_
      refine v_iadd K dX9_layBounds_75 ?_
      refine v_iload_n K 1 dX9_layBounds_76 rfl rfl ?_
      refine v_aload_n K 3 dX9_layBounds_77 rfl rfl ?_
      refine v_geti K ff_X9_79 (by decide) rfl rfl dX9_layBounds_78 ?_
      refine v_eqi ((N : Int)) (hN) ?_
      refine v_icmp_ge K 98 ⟨by omega, by omega⟩ ⟨by omega, by omega⟩ dX9_layBounds_81 (by decide) (fun h81 => ?_) (fun h81 => ?_)
      · refine v_aload_n K 3 dX9_layBounds_98 rfl rfl ?_
        refine v_getr K ff_X9_50 (by decide) rfl rfl rfl dX9_layBounds_99 ?_
        refine v_iconst K dX9_layBounds_102 ?_
        refine v_iload K 0 dX9_layBounds_103 rfl ?_
        refine v_imul K dX9_layBounds_105 ?_
        refine v_iload_n K 1 dX9_layBounds_106 rfl rfl ?_
        refine v_iadd K dX9_layBounds_107 ?_
        refine v_aload_n K 3 dX9_layBounds_108 rfl rfl ?_
        refine v_geti K ff_X9_79 (by decide) rfl rfl dX9_layBounds_109 ?_
        refine v_eqi ((N : Int)) (hN) ?_
        refine v_isub K dX9_layBounds_112 ?_
        refine v_iald K (5 * a + (k - N)) (by decide) rfl (by omega) (by show _ < 25; omega) dX9_layBounds_113 ?_
        have t9 := hT a (k - N) (by omega) (by omega)
        refine v_i2l K ⟨by omega, by omega⟩ dX9_layBounds_114 ?_
        refine v_last K (6 * (1 + bts m k) + a) (by decide) rfl (by omega) (by show _ < 30; omega) dX9_layBounds_115 ?_
        refine v_iinc K 0 (fun q9 => [(4, .int (iI q9)), (3, .int (iI (k : Int))), (2, .int (iI x)), (0, .ref (Q 90)), (1, .int (iI (m : Int)))]) dX9_layBounds_116 rfl (by decide) (fun _ => rfl) (fun w hw => ?_)
        refine v_goto K 56 dX9_layBounds_119 (by decide) ?_
        exact ih (a + 1) _ w (by omega) (lbI_put G (by omega) h5 (by unfold ct; first | (rw [if_neg (by omega)]; done) | (rw [if_neg (by omega)]; rfl) | (rw [if_pos (by omega), if_pos (by omega)]; done) | (rw [if_pos (by omega), if_neg (by omega)]; done))) (by omega) (by omega)
      · refine v_iload_n K 1 dX9_layBounds_84 rfl rfl ?_
        refine v_iload K 0 dX9_layBounds_85 rfl ?_
        refine v_icmp_ne K 94 ⟨by omega, by omega⟩ ⟨by omega, by omega⟩ dX9_layBounds_87 (by decide) (fun h87 => ?_) (fun h87 => ?_)
        · refine v_lconst K 0 dX9_layBounds_94 rfl ?_
          refine v_goto K 115 dX9_layBounds_95 (by decide) ?_
          refine v_last K (6 * (1 + bts m k) + a) (by decide) rfl (by omega) (by show _ < 30; omega) dX9_layBounds_115 ?_
          refine v_iinc K 0 (fun q9 => [(4, .int (iI q9)), (3, .int (iI (k : Int))), (2, .int (iI x)), (0, .ref (Q 90)), (1, .int (iI (m : Int)))]) dX9_layBounds_116 rfl (by decide) (fun _ => rfl) (fun w hw => ?_)
          refine v_goto K 56 dX9_layBounds_119 (by decide) ?_
          exact ih (a + 1) _ w (by omega) (lbI_put G (by omega) h5 (by unfold ct; first | (rw [if_neg (by omega)]; done) | (rw [if_neg (by omega)]; rfl) | (rw [if_pos (by omega), if_pos (by omega)]; done) | (rw [if_pos (by omega), if_neg (by omega)]; done))) (by omega) (by omega)
        · refine v_lconst K 1 dX9_layBounds_90 rfl ?_
          refine v_goto K 115 dX9_layBounds_91 (by decide) ?_
          refine v_last K (6 * (1 + bts m k) + a) (by decide) rfl (by omega) (by show _ < 30; omega) dX9_layBounds_115 ?_
          refine v_iinc K 0 (fun q9 => [(4, .int (iI q9)), (3, .int (iI (k : Int))), (2, .int (iI x)), (0, .ref (Q 90)), (1, .int (iI (m : Int)))]) dX9_layBounds_116 rfl (by decide) (fun _ => rfl) (fun w hw => ?_)
          refine v_goto K 56 dX9_layBounds_119 (by decide) ?_
          exact ih (a + 1) _ w (by omega) (lbI_put G (by omega) h5 (by unfold ct; first | (rw [if_neg (by omega)]; done) | (rw [if_neg (by omega)]; rfl) | (rw [if_pos (by omega), if_pos (by omega)]; done) | (rw [if_pos (by omega), if_neg (by omega)]; done))) (by omega) (by omega)
set_option maxRecDepth 100000 in
set_option maxHeartbeats 4000000 in
theorem l_X9_layBounds_b {X : VX} {Q : Nat → Nat} {MI ML : ZM} (K : VK X cX9_layBounds RX9 5 none 0 0 0 0) (N : Nat) (hN : MI 90 4 = N) (h1 : 1 ≤ N) (h5 : N ≤ 5) (m : Nat) (hm : m < 1024) (hc : bts m (2 * N) + 1 ≤ N) (hT : ∀ i k, i < N → k < N → -2 ≤ MI 103 (5 * i + k) ∧ MI 103 (5 * i + k) ≤ 2) (E : VE X 0 0 110 Q (zq Q (zV fun M L => M = MI ∧ lbK MI ML L m N (2 * N)))) : ∀ (n k : Nat) (L : ZM) (x : Int), x = ((1 + bts m k : Nat) : Int) → lbK MI ML L m N k → k ≤ 2 * N → 2 * N < k + n → V X (0, 0) 110 Q z_rf MI L 34 [(3, .int (iI (k : Int))), (2, .int (iI x)), (0, .ref (Q 90)), (1, .int (iI (m : Int)))] [] := by
  intro n
  induction n with
  | zero => intro k L x hx G hk hn; exact absurd hn (by omega)
  | succ n ih =>
    intro k L x hx G hk hn
    refine v_iload_n K 0 dX9_layBounds_34 rfl rfl ?_
    refine v_iconst K dX9_layBounds_35 ?_
    refine v_aload_n K 2 dX9_layBounds_36 rfl rfl ?_
    refine v_geti K ff_X9_79 (by decide) rfl rfl dX9_layBounds_37 ?_
    refine v_eqi ((N : Int)) (hN) ?_
    refine v_imul K dX9_layBounds_40 ?_
    refine v_icmp_ge K 143 ⟨by omega, by omega⟩ ⟨by omega, by omega⟩ dX9_layBounds_41 (by decide) (fun h41 => ?_) (fun h41 => ?_)
    · obtain rfl : k = 2 * N := by omega
      exact v_rv K E dX9_layBounds_143 ⟨rfl, G⟩
    · have hle : m / 2 ^ k ≤ m := Nat.div_le_self _ _
      have hbb := bt1_b m k
      have e9 : bts m (k + 1) = bts m k + bt1 m k := rfl
      refine v_iload_n K 3 dX9_layBounds_44 rfl rfl ?_
      refine v_iload_n K 0 dX9_layBounds_45 rfl rfl ?_
      refine v_ishr K (((m / 2 ^ k : Nat) : Int)) (bit_shr (by omega) (by omega)) dX9_layBounds_46 ?_
      refine v_iconst K dX9_layBounds_47 ?_
      refine v_iand K (((bt1 m k : Nat) : Int)) (bit_and (by omega)) dX9_layBounds_48 ?_
      refine v_iconst K dX9_layBounds_49 ?_
      refine v_icmp_ne K 137 ⟨by omega, by omega⟩ ⟨by omega, by omega⟩ dX9_layBounds_50 (by decide) (fun h50 => ?_) (fun h50 => ?_)
      · refine v_iinc K 0 (fun q9 => [(3, .int (iI q9)), (2, .int (iI x)), (0, .ref (Q 90)), (1, .int (iI (m : Int)))]) dX9_layBounds_137 rfl (by decide) (fun _ => rfl) (fun w hw => ?_)
        refine v_goto K 34 dX9_layBounds_140 (by decide) ?_
        obtain rfl : w = ((k + 1 : Nat) : Int) := by omega
        exact ih (k + 1) _ x (by omega) (lbK_no G (by omega)) (by omega) (by omega)
      · have hb : bt1 m k = 1 := by omega
        refine v_iconst K dX9_layBounds_53 ?_
        refine v_istore K (fun q9 => [(4, .int (iI q9)), (3, .int (iI (k : Int))), (2, .int (iI x)), (0, .ref (Q 90)), (1, .int (iI (m : Int)))]) dX9_layBounds_54 (by decide) (fun _ => rfl) (fun y hy => ?_)
        refine l_X9_layBounds_c K N hN h1 h5 m hm hc hT k (by omega) hb x hx (fun L y G => ?_) 6 0 L y hy ⟨G, fun q hq => absurd hq (by omega)⟩ (by omega) (by omega)
        refine v_aload_n K 3 dX9_layBounds_122 rfl rfl ?_
        refine v_getr K ff_X9_53 (by decide) rfl rfl rfl dX9_layBounds_123 ?_
        refine v_bipush K dX9_layBounds_126 (by decide) ?_
        refine v_iload_n K 2 dX9_layBounds_128 rfl rfl ?_
        refine v_imul K dX9_layBounds_129 ?_
        refine v_iconst K dX9_layBounds_130 ?_
        refine v_iadd K dX9_layBounds_131 ?_
        refine v_lconst K 0 dX9_layBounds_132 rfl ?_
        have hc2 := bts_lt (show k < 2 * N by omega) hb
        refine v_last K (6 * (1 + bts m k) + 5) (by decide) rfl (by omega) (by show _ < 30; omega) dX9_layBounds_133 ?_
        refine v_iinc K 2 (fun q9 => [(2, .int (iI q9)), (4, .int (iI y)), (3, .int (iI (k : Int))), (0, .ref (Q 90)), (1, .int (iI (m : Int)))]) dX9_layBounds_134 rfl (by decide) (fun _ => rfl) (fun v hv => ?_)
        refine v_iinc K 2 (fun q9 => [(3, .int (iI q9)), (2, .int (iI v)), (4, .int (iI y)), (0, .ref (Q 90)), (1, .int (iI (m : Int)))]) dX9_layBounds_137 rfl (by decide) (fun _ => rfl) (fun w hw => ?_)
        refine v_goto K 34 dX9_layBounds_140 (by decide) ?_
        obtain rfl : w = ((k + 1 : Nat) : Int) := by omega
        refine v_sub K [0, 1, 3, 4] rfl ?_
        exact ih (k + 1) _ v (by omega) (lbK_put G h5 rfl) (by omega) (by omega)
set_option maxRecDepth 100000 in
set_option maxHeartbeats 4000000 in
theorem c_X9_layBounds {l : Launch} {D : va_G} {Z : ZC} {Q : Nat → Nat} {MI ML : ZM} (N : Nat) (hN : MI 90 4 = N) (h1 : 1 ≤ N) (h5 : N ≤ 5) (m : Nat) (hm : m < 1024) (hc : bts m (2 * N) + 1 ≤ N) (hT : ∀ i k, i < N → k < N → -2 ≤ MI 103 (5 * i + k) ∧ MI 103 (5 * i + k) ≤ 2) (m9 : Int) (hm9 : m9 = m) : C_X9_layBounds l D Z Q [.ref (Q 90), .int (iI m9)] MI ML (zV fun M L => M = MI ∧ lbK MI ML L m N (2 * N)) := by
  subst hm9
  refine CM.of (by decide +kernel) (Nat.le_of_ble_eq_true rfl) ?_
  intro X K E _ _ _ _
  show V X (0, 0) 110 Q z_rf MI ML 0 [(0, .ref (Q 90)), (1, .int (iI (m : Int)))] []
  refine v_iconst K dX9_layBounds_0 ?_
  refine v_istore_n K (fun q9 => [(2, .int (iI q9)), (0, .ref (Q 90)), (1, .int (iI (m : Int)))]) dX9_layBounds_1 rfl (by decide) (fun _ => rfl) (fun y hy => ?_)
  refine l_X9_layBounds_a K N hN h1 h5 m (fun L y G => ?_) 6 0 ML y hy ⟨fun _ _ _ => rfl, fun i hi => absurd hi (by omega)⟩ (by omega) (by omega)
  refine v_aload_n K 1 dX9_layBounds_23 rfl rfl ?_
  refine v_getr K ff_X9_53 (by decide) rfl rfl rfl dX9_layBounds_24 ?_
  refine v_iconst K dX9_layBounds_27 ?_
  refine v_lconst K 1 dX9_layBounds_28 rfl ?_
  refine v_last K (5) (by decide) rfl (by omega) (by show _ < 30; omega) dX9_layBounds_29 ?_
  refine v_iconst K dX9_layBounds_30 ?_
  refine v_istore_n K (fun q9 => [(2, .int (iI q9)), (0, .ref (Q 90)), (1, .int (iI (m : Int)))]) dX9_layBounds_31 rfl (by decide) (fun _ => rfl) (fun x hx => ?_)
  refine v_iconst K dX9_layBounds_32 ?_
  refine v_istore_n K (fun q9 => [(3, .int (iI q9)), (2, .int (iI x)), (0, .ref (Q 90)), (1, .int (iI (m : Int)))]) dX9_layBounds_33 rfl (by decide) (fun _ => rfl) (fun z hz => ?_)
  subst hz
  exact l_X9_layBounds_b K N hN h1 h5 m hm hc hT E 11 0 _ x (by rw [hx]; rfl) ⟨fun c j q => by rw [z_up_k q]; exact G.1 c j q, fun i hi => by by_cases e : i = 5; (subst e; exact z_up_s); (rw [z_up_j e]; exact G.2 i (by omega)), fun q hq => absurd hq (by omega)⟩ (by omega) (by omega)
def clW (L : ZM) (r b : Nat) (m v : Int) (i : Nat) : Int := L 104 (6 * r + i) * m - L 104 (6 * b + i) * v
def clA (ML L : ZM) (r b N : Nat) (m v : Int) (k g : Nat) : Prop := (∀ c j, ¬ (c = 104 ∧ 6 * r ≤ j ∧ j < 6 * r + 6) → L c j = ML c j) ∧ (∀ i, i < 6 → k ≤ i → L 104 (6 * r + i) = ML 104 (6 * r + i)) ∧ g ≤ 4611686018427387904 ∧ ∀ i, i < k → (i < N ∨ i = 5) → L 104 (6 * r + i) = clW ML r b m v i ∧ ∃ q, clW ML r b m v i = g * q
theorem clA_no {ML L : ZM} {r b N : Nat} {m v : Int} {k g : Nat} (h : clA ML L r b N m v k g) (hk : ¬ (k < N ∨ k = 5)) : clA ML L r b N m v (k + 1) g := ⟨h.1, fun i h1 h2 => h.2.1 i h1 (by omega), h.2.2.1, fun i h1 h2 => h.2.2.2 i (by by_cases e : i = k; (subst e; exact absurd h2 hk); omega) h2⟩
theorem clA_put {ML L : ZM} {r b N : Nat} {m v : Int} {k g : Nat} {x : Int} (h : clA ML L r b N m v k g) (hk : k < 6) (hx : x = clW ML r b m v k) (hb0 : -4611686018427387904 ≤ x) (hb1 : x ≤ 4611686018427387904) : clA ML (z_up L 104 (6 * r + k) x) r b N m v (k + 1) (Int.gcd g x) := by
  obtain ⟨h1, h2, h3, h4⟩ := h
  refine ⟨fun c j q => ?_, fun i q1 q2 => ?_, ?_, fun i q1 q2 => ?_⟩
  · have : ¬ (c = 104 ∧ j = 6 * r + k) := by omega
    simp only [z_up]; rw [if_neg this]; exact h1 c j q
  · rw [z_up_j (by omega)]; exact h2 i q1 (by omega)
  · by_cases e : g = 0
    · subst e; have : Int.gcd ((0 : Nat) : Int) x = x.natAbs := by simp
      rw [this]; omega
    · have : Int.gcd (g : Int) x ≤ g := Nat.le_of_dvd (by omega) (by have := Int.gcd_dvd_left (a := (g : Int)) (b := x); exact Int.natCast_dvd_natCast.mp this)
      omega
  · by_cases e : i = k
    · subst e
      refine ⟨by rw [z_up_s, hx], ?_⟩
      obtain ⟨q, hq⟩ := Int.gcd_dvd_right (a := (g : Int)) (b := x)
      exact ⟨q, by rw [← hx]; exact hq⟩
    · obtain ⟨a, q, hq⟩ := h4 i (by omega) q2
      refine ⟨by rw [z_up_j (by omega)]; exact a, ?_⟩
      obtain ⟨p, hp⟩ := Int.gcd_dvd_left (a := (g : Int)) (b := x)
      exact ⟨p * q, by rw [hq, ← Int.mul_assoc, ← hp]⟩
def clB (ML L : ZM) (r b N : Nat) (m v : Int) (k g : Nat) : Prop := (∀ c j, ¬ (c = 104 ∧ 6 * r ≤ j ∧ j < 6 * r + 6) → L c j = ML c j) ∧ ∀ i, i < 6 → (i < N ∨ i = 5) → (∃ q, clW ML r b m v i = g * q) ∧ (i < k → g * L 104 (6 * r + i) = clW ML r b m v i) ∧ (k ≤ i → L 104 (6 * r + i) = clW ML r b m v i)
theorem clB_no {ML L : ZM} {r b N : Nat} {m v : Int} {k g : Nat} (h : clB ML L r b N m v k g) (hk : ¬ (k < N ∨ k = 5)) : clB ML L r b N m v (k + 1) g := ⟨h.1, fun i h1 h2 => ⟨(h.2 i h1 h2).1, fun h3 => (h.2 i h1 h2).2.1 (by by_cases e : i = k; (subst e; exact absurd h2 hk); omega), fun h3 => (h.2 i h1 h2).2.2 (by omega)⟩⟩
theorem clB_put {ML L : ZM} {r b N : Nat} {m v : Int} {k g : Nat} {x : Int} (h : clB ML L r b N m v k g) (hk : k < 6) (hx : g * x = clW ML r b m v k) : clB ML (z_up L 104 (6 * r + k) x) r b N m v (k + 1) g := by
  obtain ⟨h1, h2⟩ := h
  refine ⟨fun c j q => ?_, fun i q1 q2 => ⟨(h2 i q1 q2).1, fun q3 => ?_, fun q3 => ?_⟩⟩
  · have : ¬ (c = 104 ∧ j = 6 * r + k) := by omega
    simp only [z_up]; rw [if_neg this]; exact h1 c j q
  · by_cases e : i = k
    · subst e; rw [z_up_s, hx]
    · rw [z_up_j (by omega)]; exact (h2 i q1 q2).2.1 (by omega)
  · rw [z_up_j (by omega)]; exact (h2 i q1 q2).2.2 (by omega)
def clD (ML L : ZM) (r b N c : Nat) : Prop := (∀ c j, ¬ (c = 104 ∧ 6 * r ≤ j ∧ j < 6 * r + 6) → L c j = ML c j) ∧ ∃ g : Int, 1 ≤ g ∧ ∀ i, i < 6 → (i < N ∨ i = 5) → g * L 104 (6 * r + i) = clW ML r b (ML 104 (6 * b + c)) (ML 104 (6 * r + c)) i
set_option maxRecDepth 100000 in
set_option maxHeartbeats 4000000 in
theorem l_X9_clearRow_b {X : VX} {Q : Nat → Nat} {MI ML : ZM} (K : VK X cX9_clearRow RX9 11 none 1 29 0 0) (N : Nat) (hN : MI 90 4 = N) (h1 : 1 ≤ N) (h5 : N ≤ 5) (r b c : Nat) (hr : r < 5) (hb : b < 5) (hrb : r ≠ b) (hc : c < 5) (hW : ∀ i, i < 6 → (i < N ∨ i = 5) → -4611686018427387904 ≤ clW ML r b (ML 104 (6 * b + c)) (ML 104 (6 * r + c)) i ∧ clW ML r b (ML 104 (6 * b + c)) (ML 104 (6 * r + c)) i ≤ 4611686018427387904) (m v : Int) (g9 : Nat) (g : Int) (hg9 : g = g9) (hgb : g9 ≤ 4611686018427387904) (E : VE X 0 0 110 Q (zq Q (zV fun M L => M = MI ∧ clD ML L r b N c))) : ∀ (n k : Nat) (L : ZM) (y : Int), y = k → clB ML L r b N (ML 104 (6 * b + c)) (ML 104 (6 * r + c)) k g9 → (g ≤ 1 → k = 0) → k ≤ 6 → 6 < k + n → V X (0, 0) 110 Q z_rf MI L 125 [(10, .int (iI y)), (8, .long (lJ g)), (6, .long (lJ v)), (4, .long (lJ m)), (0, .ref (Q 90)), (1, .int (iI (r : Int))), (2, .int (iI (b : Int))), (3, .int (iI (c : Int)))] [] := by
  intro n
  induction n with
  | zero => intro k L y hy G hgk hk hn; exact absurd hn (by omega)
  | succ n ih =>
    intro k L y hy G hgk hk hn
    refine v_iload K 0 dX9_clearRow_125 rfl ?_
    refine v_bipush K dX9_clearRow_127 (by decide) ?_
    refine v_icmp_ge K 177 ⟨by omega, by omega⟩ ⟨by omega, by omega⟩ dX9_clearRow_129 (by decide) (fun h129 => ?_) (fun h129 => ?_)
    · obtain rfl : k = 6 := by omega
      exact v_rv K E dX9_clearRow_177 ⟨rfl, G.1, by
          by_cases q : g ≤ 1
          · exact absurd (hgk q) (by omega)
          · exact ⟨g, by omega, fun i h1 h2 => by have := (G.2 i h1 h2).2.1 h1; rw [hg9]; exact this⟩⟩
    · refine v_lload K 1 dX9_clearRow_132 rfl ?_
      refine v_lconst K 1 dX9_clearRow_134 rfl ?_
      refine v_lcmp_le K 177 (rl9 (by omega) (by omega)) (rl9 (by omega) (by omega)) dX9_clearRow_135 dX9_clearRow_136 (by decide) (fun h135 => ?_) (fun h135 => ?_)
      · obtain rfl : k = 0 := hgk (by omega)
        exact v_rv K E dX9_clearRow_177 ⟨rfl, G.1, 1, by omega, fun i h1 h2 => by have := (G.2 i h1 h2).2.2 (by omega); rw [Int.one_mul]; exact this⟩
      · have gp : 1 < g9 := by omega
        refine v_iload K 0 dX9_clearRow_139 rfl ?_
        refine v_aload_n K 4 dX9_clearRow_141 rfl rfl ?_
        refine v_geti K ff_X9_79 (by decide) rfl rfl dX9_clearRow_142 ?_
        refine v_eqi ((N : Int)) (hN) ?_
        refine v_icmp_lt K 154 ⟨by omega, by omega⟩ ⟨by omega, by omega⟩ dX9_clearRow_145 (by decide) (fun h145 => ?_) (fun h145 => ?_)
        · refine v_aload_n K 4 dX9_clearRow_154 rfl rfl ?_
          refine v_getr K ff_X9_53 (by decide) rfl rfl rfl dX9_clearRow_155 ?_
          refine v_bipush K dX9_clearRow_158 (by decide) ?_
          refine v_iload_n K 5 dX9_clearRow_160 rfl rfl ?_
          refine v_imul K dX9_clearRow_161 ?_
          refine v_iload K 0 dX9_clearRow_162 rfl ?_
          refine v_iadd K dX9_clearRow_164 ?_
          refine v_dup2_11 K dX9_clearRow_165 rfl rfl ?_
          refine v_lald K (6 * r + k) (by decide) rfl (by omega) (by show _ < 30; omega) dX9_clearRow_166 ?_
          have hWk := hW k (by omega) (by omega)
          have hd9 : clW ML r b (ML 104 (6 * b + c)) (ML 104 (6 * r + c)) k = g * (clW ML r b (ML 104 (6 * b + c)) (ML 104 (6 * r + c)) k / g) := by
            obtain ⟨q, hq⟩ := (G.2 k (by omega) (by omega)).1
            rw [hg9, hq, Int.mul_ediv_cancel_left _ (by omega)]
          refine v_eql (clW ML r b (ML 104 (6 * b + c)) (ML 104 (6 * r + c)) k) ((G.2 k (by omega) (by omega)).2.2 (Nat.le_refl _)) ?_
          refine v_lload K 1 dX9_clearRow_167 rfl ?_
          refine v_ldiv K (clW ML r b (ML 104 (6 * b + c)) (ML 104 (6 * r + c)) k / g) (lJ_ne (rl9 (by omega) (by omega)) (by omega)) (lJ_divx hd9 (rl9 hWk.1 hWk.2) (rl9 (by omega) (by omega)) (by omega)) dX9_clearRow_169 ?_
          refine v_last K (6 * r + k) (by decide) rfl (by omega) (by show _ < 30; omega) dX9_clearRow_170 ?_
          refine v_iinc K 0 (fun q9 => [(10, .int (iI q9)), (8, .long (lJ g)), (6, .long (lJ v)), (4, .long (lJ m)), (0, .ref (Q 90)), (1, .int (iI (r : Int))), (2, .int (iI (b : Int))), (3, .int (iI (c : Int)))]) dX9_clearRow_171 rfl (by decide) (fun _ => rfl) (fun w hw => ?_)
          refine v_goto K 125 dX9_clearRow_174 (by decide) ?_
          first | exact ih (k + 1) _ w (by omega) (clB_put G (by omega) (by rw [← hg9]; exact hd9.symm)) (by omega) (by omega) (by omega) | exact ih (k + 1) _ w (by omega) (clB_no G (by omega)) (by omega) (by omega) (by omega)
        · refine v_iload K 0 dX9_clearRow_148 rfl ?_
          refine v_iconst K dX9_clearRow_150 ?_
          refine v_icmp_ne K 171 ⟨by omega, by omega⟩ ⟨by omega, by omega⟩ dX9_clearRow_151 (by decide) (fun h151 => ?_) (fun h151 => ?_)
          · refine v_iinc K 0 (fun q9 => [(10, .int (iI q9)), (8, .long (lJ g)), (6, .long (lJ v)), (4, .long (lJ m)), (0, .ref (Q 90)), (1, .int (iI (r : Int))), (2, .int (iI (b : Int))), (3, .int (iI (c : Int)))]) dX9_clearRow_171 rfl (by decide) (fun _ => rfl) (fun w hw => ?_)
            refine v_goto K 125 dX9_clearRow_174 (by decide) ?_
            first | exact ih (k + 1) _ w (by omega) (clB_put G (by omega) (by rw [← hg9]; exact hd9.symm)) (by omega) (by omega) (by omega) | exact ih (k + 1) _ w (by omega) (clB_no G (by omega)) (by omega) (by omega) (by omega)
          · refine v_aload_n K 4 dX9_clearRow_154 rfl rfl ?_
            refine v_getr K ff_X9_53 (by decide) rfl rfl rfl dX9_clearRow_155 ?_
            refine v_bipush K dX9_clearRow_158 (by decide) ?_
            refine v_iload_n K 5 dX9_clearRow_160 rfl rfl ?_
            refine v_imul K dX9_clearRow_161 ?_
            refine v_iload K 0 dX9_clearRow_162 rfl ?_
            refine v_iadd K dX9_clearRow_164 ?_
            refine v_dup2_11 K dX9_clearRow_165 rfl rfl ?_
            refine v_lald K (6 * r + k) (by decide) rfl (by omega) (by show _ < 30; omega) dX9_clearRow_166 ?_
            have hWk := hW k (by omega) (by omega)
            have hd9 : clW ML r b (ML 104 (6 * b + c)) (ML 104 (6 * r + c)) k = g * (clW ML r b (ML 104 (6 * b + c)) (ML 104 (6 * r + c)) k / g) := by
              obtain ⟨q, hq⟩ := (G.2 k (by omega) (by omega)).1
              rw [hg9, hq, Int.mul_ediv_cancel_left _ (by omega)]
            refine v_eql (clW ML r b (ML 104 (6 * b + c)) (ML 104 (6 * r + c)) k) ((G.2 k (by omega) (by omega)).2.2 (Nat.le_refl _)) ?_
            refine v_lload K 1 dX9_clearRow_167 rfl ?_
            refine v_ldiv K (clW ML r b (ML 104 (6 * b + c)) (ML 104 (6 * r + c)) k / g) (lJ_ne (rl9 (by omega) (by omega)) (by omega)) (lJ_divx hd9 (rl9 hWk.1 hWk.2) (rl9 (by omega) (by omega)) (by omega)) dX9_clearRow_169 ?_
            refine v_last K (6 * r + k) (by decide) rfl (by omega) (by show _ < 30; omega) dX9_clearRow_170 ?_
            refine v_iinc K 0 (fun q9 => [(10, .int (iI q9)), (8, .long (lJ g)), (6, .long (lJ v)), (4, .long (lJ m)), (0, .ref (Q 90)), (1, .int (iI (r : Int))), (2, .int (iI (b : Int))), (3, .int (iI (c : Int)))]) dX9_clearRow_171 rfl (by decide) (fun _ => rfl) (fun w hw => ?_)
            refine v_goto K 125 dX9_clearRow_174 (by decide) ?_
            first | exact ih (k + 1) _ w (by omega) (clB_put G (by omega) (by rw [← hg9]; exact hd9.symm)) (by omega) (by omega) (by omega) | exact ih (k + 1) _ w (by omega) (clB_no G (by omega)) (by omega) (by omega) (by omega)
set_option maxRecDepth 100000 in
set_option maxHeartbeats 4000000 in
theorem l_X9_clearRow_a {X : VX} {Q : Nat → Nat} {MI ML : ZM} (K : VK X cX9_clearRow RX9 11 none 1 29 0 0) (N : Nat) (hN : MI 90 4 = N) (h1 : 1 ≤ N) (h5 : N ≤ 5) (r b c : Nat) (hr : r < 5) (hb : b < 5) (hrb : r ≠ b) (hc : c < 5) (hW : ∀ i, i < 6 → (i < N ∨ i = 5) → -4611686018427387904 ≤ clW ML r b (ML 104 (6 * b + c)) (ML 104 (6 * r + c)) i ∧ clW ML r b (ML 104 (6 * b + c)) (ML 104 (6 * r + c)) i ≤ 4611686018427387904) (E : VE X 0 0 110 Q (zq Q (zV fun M L => M = MI ∧ clD ML L r b N c))) : ∀ (n k : Nat) (L : ZM) (y g : Int) (g9 : Nat), y = k → g = g9 → clA ML L r b N (ML 104 (6 * b + c)) (ML 104 (6 * r + c)) k g9 → k ≤ 6 → 6 < k + n → V X (0, 0) 110 Q z_rf MI L 32 [(10, .int (iI y)), (8, .long (lJ g)), (6, .long (lJ (ML 104 (6 * r + c)))), (4, .long (lJ (ML 104 (6 * b + c)))), (0, .ref (Q 90)), (1, .int (iI (r : Int))), (2, .int (iI (b : Int))), (3, .int (iI (c : Int)))] [] := by
  intro n
  induction n with
  | zero => intro k L y g g9 hy hg G hk hn; exact absurd hn (by omega)
  | succ n ih =>
    intro k L y g g9 hy hg G hk hn
    refine v_iload K 0 dX9_clearRow_32 rfl ?_
    refine v_bipush K dX9_clearRow_34 (by decide) ?_
    refine v_icmp_ge K 122 ⟨by omega, by omega⟩ ⟨by omega, by omega⟩ dX9_clearRow_36 (by decide) (fun h36 => ?_) (fun h36 => ?_)
    · obtain rfl : k = 6 := by omega
      refine v_iconst K dX9_clearRow_122 ?_
      refine v_istore K (fun q9 => [(10, .int (iI q9)), (8, .long (lJ g)), (6, .long (lJ (ML 104 (6 * r + c)))), (4, .long (lJ (ML 104 (6 * b + c)))), (0, .ref (Q 90)), (1, .int (iI (r : Int))), (2, .int (iI (b : Int))), (3, .int (iI (c : Int)))]) dX9_clearRow_123 (by decide) (fun _ => rfl) (fun y2 hy2 => ?_)
      exact l_X9_clearRow_b K N hN h1 h5 r b c hr hb hrb hc hW _ _ g9 g hg G.2.2.1 E 7 0 L y2 hy2 ⟨G.1, fun i q1 q2 => ⟨(G.2.2.2 i (by omega) q2).2, fun h => absurd h (by omega), fun _ => (G.2.2.2 i (by omega) q2).1⟩⟩ (fun _ => rfl) (by omega) (by omega)
    · refine v_iload K 0 dX9_clearRow_39 rfl ?_
      refine v_aload_n K 4 dX9_clearRow_41 rfl rfl ?_
      refine v_geti K ff_X9_79 (by decide) rfl rfl dX9_clearRow_42 ?_
      refine v_eqi ((N : Int)) (hN) ?_
      refine v_icmp_lt K 54 ⟨by omega, by omega⟩ ⟨by omega, by omega⟩ dX9_clearRow_45 (by decide) (fun h45 => ?_) (fun h45 => ?_)
      · refine v_aload_n K 4 dX9_clearRow_54 rfl rfl ?_
        refine v_getr K ff_X9_53 (by decide) rfl rfl rfl dX9_clearRow_55 ?_
        refine v_bipush K dX9_clearRow_58 (by decide) ?_
        refine v_iload_n K 5 dX9_clearRow_60 rfl rfl ?_
        refine v_imul K dX9_clearRow_61 ?_
        refine v_iload K 0 dX9_clearRow_62 rfl ?_
        refine v_iadd K dX9_clearRow_64 ?_
        refine v_aload_n K 4 dX9_clearRow_65 rfl rfl ?_
        refine v_getr K ff_X9_53 (by decide) rfl rfl rfl dX9_clearRow_66 ?_
        refine v_bipush K dX9_clearRow_69 (by decide) ?_
        refine v_iload_n K 5 dX9_clearRow_71 rfl rfl ?_
        refine v_imul K dX9_clearRow_72 ?_
        refine v_iload K 0 dX9_clearRow_73 rfl ?_
        refine v_iadd K dX9_clearRow_75 ?_
        refine v_lald K (6 * r + k) (by decide) rfl (by omega) (by show _ < 30; omega) dX9_clearRow_76 ?_
        refine v_eql (ML 104 (6 * r + k)) (G.2.1 k (by omega) (Nat.le_refl _)) ?_
        refine v_lload K 3 dX9_clearRow_77 rfl ?_
        refine v_lmul K dX9_clearRow_79 ?_
        refine v_aload_n K 4 dX9_clearRow_80 rfl rfl ?_
        refine v_getr K ff_X9_53 (by decide) rfl rfl rfl dX9_clearRow_81 ?_
        refine v_bipush K dX9_clearRow_84 (by decide) ?_
        refine v_iload_n K 6 dX9_clearRow_86 rfl rfl ?_
        refine v_imul K dX9_clearRow_87 ?_
        refine v_iload K 0 dX9_clearRow_88 rfl ?_
        refine v_iadd K dX9_clearRow_90 ?_
        refine v_lald K (6 * b + k) (by decide) rfl (by omega) (by show _ < 30; omega) dX9_clearRow_91 ?_
        refine v_eql (ML 104 (6 * b + k)) (G.1 104 _ (by omega)) ?_
        refine v_lload K 2 dX9_clearRow_92 rfl ?_
        refine v_lmul K dX9_clearRow_94 ?_
        refine v_lsub K dX9_clearRow_95 ?_
        refine v_last K (6 * r + k) (by decide) rfl (by omega) (by show _ < 30; omega) dX9_clearRow_96 ?_
        have hWk := hW k (by omega) (by omega)
        have hG3 := G.2.2.1
        refine v_lload K 1 dX9_clearRow_97 rfl ?_
        refine v_aload_n K 4 dX9_clearRow_99 rfl rfl ?_
        refine v_getr K ff_X9_53 (by decide) rfl rfl rfl dX9_clearRow_100 ?_
        refine v_bipush K dX9_clearRow_103 (by decide) ?_
        refine v_iload_n K 5 dX9_clearRow_105 rfl rfl ?_
        refine v_imul K dX9_clearRow_106 ?_
        refine v_iload K 0 dX9_clearRow_107 rfl ?_
        refine v_iadd K dX9_clearRow_109 ?_
        refine v_lald K (6 * r + k) (by decide) rfl (by omega) (by show _ < 30; omega) dX9_clearRow_110 ?_
        refine v_eql (clW ML r b (ML 104 (6 * b + c)) (ML 104 (6 * r + c)) k) (z_up_s.trans rfl) ?_
        refine v_cSl K (c_X9_divisor g (clW ML r b (ML 104 (6 * b + c)) (ML 104 (6 * r + c)) k) (by omega) (by omega) hWk.1 hWk.2) rfl fc_X9_144 wt_X9_divisor rfl (by decide) (Nat.le_of_ble_eq_true rfl) dX9_clearRow_111 (fun r111 M111 L111 h111 => ?_)
        obtain ⟨hm111, hl111, hr111⟩ := h111
        subst M111 L111
        refine v_lstore K (fun q9 => [(8, .long (lJ q9)), (10, .int (iI y)), (6, .long (lJ (ML 104 (6 * r + c)))), (4, .long (lJ (ML 104 (6 * b + c)))), (0, .ref (Q 90)), (1, .int (iI (r : Int))), (2, .int (iI (b : Int))), (3, .int (iI (c : Int)))]) dX9_clearRow_114 (by decide) (fun _ => rfl) (fun g2 hg2 => ?_)
        refine v_iinc K 1 (fun q9 => [(10, .int (iI q9)), (8, .long (lJ g2)), (6, .long (lJ (ML 104 (6 * r + c)))), (4, .long (lJ (ML 104 (6 * b + c)))), (0, .ref (Q 90)), (1, .int (iI (r : Int))), (2, .int (iI (b : Int))), (3, .int (iI (c : Int)))]) dX9_clearRow_116 rfl (by decide) (fun _ => rfl) (fun w hw => ?_)
        refine v_goto K 32 dX9_clearRow_119 (by decide) ?_
        first | exact ih (k + 1) _ w g g9 (by omega) hg (clA_no G (by omega)) (by omega) (by omega) | exact ih (k + 1) _ w g2 _ (by omega) (by rw [hg2, hr111, hg]; rfl) (clA_put G (by omega) rfl hWk.1 hWk.2) (by omega) (by omega)
      · refine v_iload K 0 dX9_clearRow_48 rfl ?_
        refine v_iconst K dX9_clearRow_50 ?_
        refine v_icmp_ne K 116 ⟨by omega, by omega⟩ ⟨by omega, by omega⟩ dX9_clearRow_51 (by decide) (fun h51 => ?_) (fun h51 => ?_)
        · refine v_iinc K 0 (fun q9 => [(10, .int (iI q9)), (8, .long (lJ g)), (6, .long (lJ (ML 104 (6 * r + c)))), (4, .long (lJ (ML 104 (6 * b + c)))), (0, .ref (Q 90)), (1, .int (iI (r : Int))), (2, .int (iI (b : Int))), (3, .int (iI (c : Int)))]) dX9_clearRow_116 rfl (by decide) (fun _ => rfl) (fun w hw => ?_)
          refine v_goto K 32 dX9_clearRow_119 (by decide) ?_
          first | exact ih (k + 1) _ w g g9 (by omega) hg (clA_no G (by omega)) (by omega) (by omega) | exact ih (k + 1) _ w g2 _ (by omega) (by rw [hg2, hr111, hg]; rfl) (clA_put G (by omega) rfl hWk.1 hWk.2) (by omega) (by omega)
        · refine v_aload_n K 4 dX9_clearRow_54 rfl rfl ?_
          refine v_getr K ff_X9_53 (by decide) rfl rfl rfl dX9_clearRow_55 ?_
          refine v_bipush K dX9_clearRow_58 (by decide) ?_
          refine v_iload_n K 5 dX9_clearRow_60 rfl rfl ?_
          refine v_imul K dX9_clearRow_61 ?_
          refine v_iload K 0 dX9_clearRow_62 rfl ?_
          refine v_iadd K dX9_clearRow_64 ?_
          refine v_aload_n K 4 dX9_clearRow_65 rfl rfl ?_
          refine v_getr K ff_X9_53 (by decide) rfl rfl rfl dX9_clearRow_66 ?_
          refine v_bipush K dX9_clearRow_69 (by decide) ?_
          refine v_iload_n K 5 dX9_clearRow_71 rfl rfl ?_
          refine v_imul K dX9_clearRow_72 ?_
          refine v_iload K 0 dX9_clearRow_73 rfl ?_
          refine v_iadd K dX9_clearRow_75 ?_
          refine v_lald K (6 * r + k) (by decide) rfl (by omega) (by show _ < 30; omega) dX9_clearRow_76 ?_
          refine v_eql (ML 104 (6 * r + k)) (G.2.1 k (by omega) (Nat.le_refl _)) ?_
          refine v_lload K 3 dX9_clearRow_77 rfl ?_
          refine v_lmul K dX9_clearRow_79 ?_
          refine v_aload_n K 4 dX9_clearRow_80 rfl rfl ?_
          refine v_getr K ff_X9_53 (by decide) rfl rfl rfl dX9_clearRow_81 ?_
          refine v_bipush K dX9_clearRow_84 (by decide) ?_
          refine v_iload_n K 6 dX9_clearRow_86 rfl rfl ?_
          refine v_imul K dX9_clearRow_87 ?_
          refine v_iload K 0 dX9_clearRow_88 rfl ?_
          refine v_iadd K dX9_clearRow_90 ?_
          refine v_lald K (6 * b + k) (by decide) rfl (by omega) (by show _ < 30; omega) dX9_clearRow_91 ?_
          refine v_eql (ML 104 (6 * b + k)) (G.1 104 _ (by omega)) ?_
          refine v_lload K 2 dX9_clearRow_92 rfl ?_
          refine v_lmul K dX9_clearRow_94 ?_
          refine v_lsub K dX9_clearRow_95 ?_
          refine v_last K (6 * r + k) (by decide) rfl (by omega) (by show _ < 30; omega) dX9_clearRow_96 ?_
          have hWk := hW k (by omega) (by omega)
          have hG3 := G.2.2.1
          refine v_lload K 1 dX9_clearRow_97 rfl ?_
          refine v_aload_n K 4 dX9_clearRow_99 rfl rfl ?_
          refine v_getr K ff_X9_53 (by decide) rfl rfl rfl dX9_clearRow_100 ?_
          refine v_bipush K dX9_clearRow_103 (by decide) ?_
          refine v_iload_n K 5 dX9_clearRow_105 rfl rfl ?_
          refine v_imul K dX9_clearRow_106 ?_
          refine v_iload K 0 dX9_clearRow_107 rfl ?_
          refine v_iadd K dX9_clearRow_109 ?_
          refine v_lald K (6 * r + k) (by decide) rfl (by omega) (by show _ < 30; omega) dX9_clearRow_110 ?_
          refine v_eql (clW ML r b (ML 104 (6 * b + c)) (ML 104 (6 * r + c)) k) (z_up_s.trans rfl) ?_
          refine v_cSl K (c_X9_divisor g (clW ML r b (ML 104 (6 * b + c)) (ML 104 (6 * r + c)) k) (by omega) (by omega) hWk.1 hWk.2) rfl fc_X9_144 wt_X9_divisor rfl (by decide) (Nat.le_of_ble_eq_true rfl) dX9_clearRow_111 (fun r111 M111 L111 h111 => ?_)
          obtain ⟨hm111, hl111, hr111⟩ := h111
          subst M111 L111
          refine v_lstore K (fun q9 => [(8, .long (lJ q9)), (10, .int (iI y)), (6, .long (lJ (ML 104 (6 * r + c)))), (4, .long (lJ (ML 104 (6 * b + c)))), (0, .ref (Q 90)), (1, .int (iI (r : Int))), (2, .int (iI (b : Int))), (3, .int (iI (c : Int)))]) dX9_clearRow_114 (by decide) (fun _ => rfl) (fun g2 hg2 => ?_)
          refine v_iinc K 1 (fun q9 => [(10, .int (iI q9)), (8, .long (lJ g2)), (6, .long (lJ (ML 104 (6 * r + c)))), (4, .long (lJ (ML 104 (6 * b + c)))), (0, .ref (Q 90)), (1, .int (iI (r : Int))), (2, .int (iI (b : Int))), (3, .int (iI (c : Int)))]) dX9_clearRow_116 rfl (by decide) (fun _ => rfl) (fun w hw => ?_)
          refine v_goto K 32 dX9_clearRow_119 (by decide) ?_
          first | exact ih (k + 1) _ w g g9 (by omega) hg (clA_no G (by omega)) (by omega) (by omega) | exact ih (k + 1) _ w g2 _ (by omega) (by rw [hg2, hr111, hg]; rfl) (clA_put G (by omega) rfl hWk.1 hWk.2) (by omega) (by omega)
set_option maxRecDepth 100000 in
set_option maxHeartbeats 4000000 in
theorem c_X9_clearRow {l : Launch} {D : va_G} {Z : ZC} {Q : Nat → Nat} {MI ML : ZM} (N : Nat) (hN : MI 90 4 = N) (h1 : 1 ≤ N) (h5 : N ≤ 5) (r b c : Nat) (hr : r < 5) (hb : b < 5) (hrb : r ≠ b) (hc : c < 5) (hW : ∀ i, i < 6 → (i < N ∨ i = 5) → -4611686018427387904 ≤ clW ML r b (ML 104 (6 * b + c)) (ML 104 (6 * r + c)) i ∧ clW ML r b (ML 104 (6 * b + c)) (ML 104 (6 * r + c)) i ≤ 4611686018427387904) (r9 b9 c9 : Int) (hr9 : r9 = r) (hb9 : b9 = b) (hc9 : c9 = c) : C_X9_clearRow l D Z Q [.ref (Q 90), .int (iI r9), .int (iI b9), .int (iI c9)] MI ML (zV fun M L => M = MI ∧ clD ML L r b N c) := by
  subst hr9
  subst hb9
  subst hc9
  refine CM.of (by decide +kernel) (Nat.le_of_ble_eq_true rfl) ?_
  intro X K E _ _ _ _
  show V X (0, 0) 110 Q z_rf MI ML 0 [(0, .ref (Q 90)), (1, .int (iI (r : Int))), (2, .int (iI (b : Int))), (3, .int (iI (c : Int)))] []
  refine v_aload_n K 0 dX9_clearRow_0 rfl rfl ?_
  refine v_getr K ff_X9_53 (by decide) rfl rfl rfl dX9_clearRow_1 ?_
  refine v_bipush K dX9_clearRow_4 (by decide) ?_
  refine v_iload_n K 2 dX9_clearRow_6 rfl rfl ?_
  refine v_imul K dX9_clearRow_7 ?_
  refine v_iload_n K 3 dX9_clearRow_8 rfl rfl ?_
  refine v_iadd K dX9_clearRow_9 ?_
  refine v_lald K (6 * b + c) (by decide) rfl (by omega) (by show _ < 30; omega) dX9_clearRow_10 ?_
  refine v_lstore K (fun q9 => [(4, .long (lJ q9)), (0, .ref (Q 90)), (1, .int (iI (r : Int))), (2, .int (iI (b : Int))), (3, .int (iI (c : Int)))]) dX9_clearRow_11 (by decide) (fun _ => rfl) (fun m hm => ?_)
  refine v_aload_n K 1 dX9_clearRow_13 rfl rfl ?_
  refine v_getr K ff_X9_53 (by decide) rfl rfl rfl dX9_clearRow_14 ?_
  refine v_bipush K dX9_clearRow_17 (by decide) ?_
  refine v_iload_n K 2 dX9_clearRow_19 rfl rfl ?_
  refine v_imul K dX9_clearRow_20 ?_
  refine v_iload_n K 4 dX9_clearRow_21 rfl rfl ?_
  refine v_iadd K dX9_clearRow_22 ?_
  refine v_lald K (6 * r + c) (by decide) rfl (by omega) (by show _ < 30; omega) dX9_clearRow_23 ?_
  refine v_lstore K (fun q9 => [(6, .long (lJ q9)), (4, .long (lJ m)), (0, .ref (Q 90)), (1, .int (iI (r : Int))), (2, .int (iI (b : Int))), (3, .int (iI (c : Int)))]) dX9_clearRow_24 (by decide) (fun _ => rfl) (fun v hv => ?_)
  refine v_lconst K 0 dX9_clearRow_26 rfl ?_
  refine v_lstore K (fun q9 => [(8, .long (lJ q9)), (6, .long (lJ v)), (4, .long (lJ m)), (0, .ref (Q 90)), (1, .int (iI (r : Int))), (2, .int (iI (b : Int))), (3, .int (iI (c : Int)))]) dX9_clearRow_27 (by decide) (fun _ => rfl) (fun g hg => ?_)
  refine v_iconst K dX9_clearRow_29 ?_
  refine v_istore K (fun q9 => [(10, .int (iI q9)), (8, .long (lJ g)), (6, .long (lJ v)), (4, .long (lJ m)), (0, .ref (Q 90)), (1, .int (iI (r : Int))), (2, .int (iI (b : Int))), (3, .int (iI (c : Int)))]) dX9_clearRow_30 (by decide) (fun _ => rfl) (fun y hy => ?_)
  subst hm hv
  exact l_X9_clearRow_a K N hN h1 h5 r b c hr hb hrb hc hW E 7 0 ML y g 0 hy (by omega) ⟨fun _ _ _ => rfl, fun _ _ _ => rfl, by omega, fun i h => absurd h (by omega)⟩ (by omega) (by omega)
