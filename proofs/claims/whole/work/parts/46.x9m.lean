/-- the fractions of L are those of y over W -/
def frc (MI ML : ZM) (N : Nat) (y : Nat → Int) (W : Int) : Prop := 0 < W ∧ W ≤ 50000 ∧ (∀ q, q < N → 0 < ML 106 q ∧ Int.gcd (ML 105 q) (ML 106 q) = 1 ∧ ML 106 q * y q = ML 105 q * W ∧ -50000 ≤ y q ∧ y q ≤ 50000) ∧ ∀ i j, i < N → j < N → -2 ≤ MI 103 (5 * i + j) ∧ MI 103 (5 * i + j) ≤ 2
theorem frc_q {MI ML : ZM} {N : Nat} {y : Nat → Int} {W : Int} (h : frc MI ML N y W) {q : Nat} (hq : q < N) : ML 106 q ≤ 50000 ∧ -50000 ≤ ML 105 q ∧ ML 105 q ≤ 50000 ∧ (0 ≤ ML 105 q ↔ 0 ≤ y q) ∧ ∃ t, W = ML 106 q * t ∧ y q = ML 105 q * t := by
  obtain ⟨w0, w1, h3, -⟩ := h
  obtain ⟨b0, bg, be, y0, y1⟩ := h3 q hq
  obtain ⟨t, t1, t2⟩ := fr_dvd b0 bg be
  have tp : 0 < t := by
    by_cases c : 0 < t
    · exact c
    · have := Int.mul_nonneg (show 0 ≤ ML 106 q by omega) (show 0 ≤ - t by omega)
      grind
  have c1 : ML 106 q ≤ W := by
    have := Int.mul_nonneg (show 0 ≤ ML 106 q by omega) (show 0 ≤ t - 1 by omega)
    grind
  refine ⟨by omega, ?_, ?_, ?_, t, t1, t2⟩
  · by_cases s : 0 ≤ ML 105 q
    · omega
    · have := Int.mul_nonneg (show 0 ≤ - ML 105 q by omega) (show 0 ≤ t - 1 by omega)
      grind
  · by_cases s : 0 ≤ ML 105 q
    · have := Int.mul_nonneg s (show 0 ≤ t - 1 by omega)
      grind
    · omega
  · constructor
    · intro s; rw [t2]; exact Int.mul_nonneg s (by omega)
    · intro s
      by_cases c : 0 ≤ ML 105 q
      · exact c
      · have := Int.mul_pos (show 0 < - ML 105 q by omega) tp
        grind
theorem lcm_go (a b : Nat) : a / Nat.gcd a b * b = Nat.lcm a b := by
  rw [Nat.lcm, Nat.mul_comm a b, Nat.mul_div_assoc b (Nat.gcd_dvd_left a b), Nat.mul_comm]
def hoA (ML : ZM) (y : Nat → Int) (W : Int) (k : Nat) (a v : Int) : Prop := (∃ A : Nat, a = A ∧ (A : Int) ∣ W ∧ ∀ q, q < k → ML 106 q ∣ (A : Int)) ∧ ((v = 1 ∧ ∀ q, q < k → 0 ≤ y q) ∨ (v = 0 ∧ ∃ q, q < k ∧ y q < 0))
def HS (MI : ZM) (N : Nat) (y : Nat → Int) (k : Nat) : Prop := (∀ q, q < N → 0 ≤ y q) ∧ ∀ j, j < k → 0 ≤ sumK (fun i => y i * rT MI i j) N
def hoB (MI : ZM) (N : Nat) (y : Nat → Int) (k : Nat) (v : Int) : Prop := (v = 1 ∧ HS MI N y k) ∨ (v = 0 ∧ ¬ HS MI N y N)
/-- the sum that is counted, and the one that is meant -/
theorem ho_sum {MI ML : ZM} {N : Nat} {y : Nat → Int} {W : Int} (h : frc MI ML N y W) {A : Nat} (hA : (A : Int) ∣ W) (hd : ∀ q, q < N → ML 106 q ∣ (A : Int)) (j : Nat) : ∃ d : Int, 0 < d ∧ sumK (fun i => y i * rT MI i j) N = d * sumK (fun i => ML 105 i * ((A : Int) / ML 106 i) * rT MI i j) N := by
  obtain ⟨d, hd2⟩ := hA
  have w0 := h.1
  have d0 : 0 < d := by
    by_cases c : 0 < d
    · exact c
    · have := Int.mul_nonneg (show 0 ≤ (A : Int) by omega) (show 0 ≤ - d by omega)
      grind
  refine ⟨d, d0, ?_⟩
  rw [← sumK_mul]
  refine sumK_congr N (fun i hi => ?_)
  obtain ⟨b0, bg, be, -, -⟩ := h.2.2.1 i hi
  obtain ⟨t, ht⟩ := hd i hi
  have e : (A : Int) / ML 106 i = t := by rw [ht, Int.mul_ediv_cancel_left _ (by omega)]
  rw [e]
  have : y i = ML 105 i * t * d := by
    refine Int.eq_of_mul_eq_mul_left (show ML 106 i ≠ 0 by omega) ?_
    rw [be, hd2, ht]; grind
  rw [this]; grind
theorem ho_bd {MI ML : ZM} {N : Nat} {y : Nat → Int} {W : Int} (h : frc MI ML N y W) (h5 : N ≤ 5) {j : Nat} (hj : j < N) : -500000 ≤ sumK (fun i => y i * rT MI i j) N ∧ sumK (fun i => y i * rT MI i j) N ≤ 500000 := by
  have q := sumK_bd (f := fun i => y i * rT MI i j) (B := 100000) N (fun i hi => by
    have t := h.2.2.2 i j hi hj
    have b := (h.2.2.1 i hi).2.2.2
    show -100000 ≤ y i * MI 103 (5 * i + j) ∧ y i * MI 103 (5 * i + j) ≤ 100000
    rcases (show MI 103 (5 * i + j) = -2 ∨ MI 103 (5 * i + j) = -1 ∨ MI 103 (5 * i + j) = 0 ∨ MI 103 (5 * i + j) = 1 ∨ MI 103 (5 * i + j) = 2 by omega) with e | e | e | e | e <;> rw [e] <;> omega)
  omega
theorem ho_rl {s d u : Int} (d0 : 0 < d) (e : s = d * u) (b0 : -500000 ≤ s) (b1 : s ≤ 500000) : -500000 ≤ u ∧ u ≤ 500000 ∧ (0 ≤ u ↔ 0 ≤ s) := by
  refine ⟨?_, ?_, ?_⟩
  · by_cases c : 0 ≤ u
    · omega
    · have := Int.mul_nonneg (show 0 ≤ - u by omega) (show 0 ≤ d - 1 by omega)
      grind
  · by_cases c : 0 ≤ u
    · have := Int.mul_nonneg c (show 0 ≤ d - 1 by omega)
      grind
    · omega
  · constructor
    · intro c; rw [e]; exact Int.mul_nonneg (by omega) c
    · intro c
      by_cases q : 0 ≤ u
      · exact q
      · have := Int.mul_pos d0 (show 0 < - u by omega)
        grind
set_option maxRecDepth 100000 in
set_option maxHeartbeats 4000000 in
theorem l_X9_holds_s {X : VX} {Q : Nat → Nat} {MI ML : ZM} (K : VK X cX9_holds RX9 8 (some .boolean) 1 29 0 0) (N : Nat) (hN : MI 90 4 = N) (h1 : 1 ≤ N) (h5 : N ≤ 5) (y : Nat → Int) (W : Int) (F : frc MI ML N y W) (A : Nat) (hA : (A : Int) ∣ W) (hd : ∀ q, q < N → ML 106 q ∣ (A : Int)) (j : Nat) (hj : j < N) (v : Int) (kk : V X (0, 0) 110 Q z_rf MI ML 139 [(7, .int (iI (N : Int))), (5, .long (lJ (sumK (fun i => ML 105 i * ((A : Int) / ML 106 i) * rT MI i j) N))), (4, .int (iI (j : Int))), (3, .int (iI v)), (1, .long (lJ (A : Int))), (0, .ref (Q 90))] []) : ∀ (n k : Nat), k ≤ N → N < k + n → V X (0, 0) 110 Q z_rf MI ML 88 [(7, .int (iI (k : Int))), (5, .long (lJ (sumK (fun i => ML 105 i * ((A : Int) / ML 106 i) * rT MI i j) k))), (4, .int (iI (j : Int))), (3, .int (iI v)), (1, .long (lJ (A : Int))), (0, .ref (Q 90))] [] := by
  intro n
  induction n with
  | zero => intro k hk hn; exact absurd hn (by omega)
  | succ n ih =>
    intro k hk hn
    refine v_iload K 0 dX9_holds_88 rfl ?_
    refine v_aload_n K 5 dX9_holds_90 rfl rfl ?_
    refine v_geti K ff_X9_79 (by decide) rfl rfl dX9_holds_91 ?_
    refine v_eqi ((N : Int)) (hN) ?_
    refine v_icmp_ge K 139 ⟨by omega, by omega⟩ ⟨by omega, by omega⟩ dX9_holds_94 (by decide) (fun h94 => ?_) (fun h94 => ?_)
    · obtain e9 : k = N := (by omega)
      rw [e9]
      exact kk
    · have f9 := F.2.2.1 k (by omega)
      have g9 := frc_q F (show k < N by omega)
      have t9 := F.2.2.2 k j (by omega) hj
      have a0 : (A : Int) ≤ W := Int.le_of_dvd F.1 hA
      have w1 := F.2.1
      refine v_lload K 1 dX9_holds_97 rfl ?_
      refine v_aload_n K 5 dX9_holds_99 rfl rfl ?_
      refine v_getr K ff_X9_57 (by decide) rfl rfl rfl dX9_holds_100 ?_
      refine v_iload K 0 dX9_holds_103 rfl ?_
      refine v_lald K (k) (by decide) rfl (by omega) (by show _ < 5; omega) dX9_holds_105 ?_
      refine v_lload_n K 4 dX9_holds_106 rfl rfl ?_
      refine v_aload_n K 5 dX9_holds_107 rfl rfl ?_
      refine v_getr K ff_X9_60 (by decide) rfl rfl rfl dX9_holds_108 ?_
      refine v_iload K 0 dX9_holds_111 rfl ?_
      refine v_lald K (k) (by decide) rfl (by omega) (by show _ < 5; omega) dX9_holds_113 ?_
      refine v_ldiv K ((A : Int) / ML 106 k) (lJ_ne (rl9 (by omega) (by omega)) (by omega)) (lJ_divx (Int.mul_ediv_cancel' (hd k (by omega))).symm (rl9 (by omega) (by omega)) (rl9 (by omega) (by omega)) (by omega)) dX9_holds_114 ?_
      refine v_lmul K dX9_holds_115 ?_
      refine v_aload_n K 5 dX9_holds_116 rfl rfl ?_
      refine v_getr K ff_X9_50 (by decide) rfl rfl rfl dX9_holds_117 ?_
      refine v_iconst K dX9_holds_120 ?_
      refine v_iload K 0 dX9_holds_121 rfl ?_
      refine v_imul K dX9_holds_123 ?_
      refine v_iload K 2 dX9_holds_124 rfl ?_
      refine v_iadd K dX9_holds_126 ?_
      refine v_iald K (5 * k + j) (by decide) rfl (by omega) (by show _ < 25; omega) dX9_holds_127 ?_
      refine v_i2l K ⟨by omega, by omega⟩ dX9_holds_128 ?_
      refine v_lmul K dX9_holds_129 ?_
      refine v_ladd K dX9_holds_130 ?_
      refine v_lstore K (fun q9 => [(5, .long (lJ q9)), (7, .int (iI (k : Int))), (4, .int (iI (j : Int))), (3, .int (iI v)), (1, .long (lJ (A : Int))), (0, .ref (Q 90))]) dX9_holds_131 (by decide) (fun _ => rfl) (fun s2 hs2 => ?_)
      refine v_iinc K 1 (fun q9 => [(7, .int (iI q9)), (5, .long (lJ s2)), (4, .int (iI (j : Int))), (3, .int (iI v)), (1, .long (lJ (A : Int))), (0, .ref (Q 90))]) dX9_holds_133 rfl (by decide) (fun _ => rfl) (fun w hw => ?_)
      refine v_goto K 88 dX9_holds_136 (by decide) ?_
      obtain rfl : w = ((k + 1 : Nat) : Int) := by omega
      obtain rfl : s2 = sumK (fun i => ML 105 i * ((A : Int) / ML 106 i) * rT MI i j) (k + 1) := hs2
      exact ih (k + 1) (by omega) (by omega)
set_option maxRecDepth 100000 in
set_option maxHeartbeats 4000000 in
theorem l_X9_holds_b {X : VX} {Q : Nat → Nat} {MI ML : ZM} (K : VK X cX9_holds RX9 8 (some .boolean) 1 29 0 0) (N : Nat) (hN : MI 90 4 = N) (h1 : 1 ≤ N) (h5 : N ≤ 5) (y : Nat → Int) (W : Int) (F : frc MI ML N y W) (A : Nat) (hA : (A : Int) ∣ W) (hd : ∀ q, q < N → ML 106 q ∣ (A : Int)) (E : VE X 0 0 110 Q (zq Q (zI fun r M L => M = MI ∧ L = ML ∧ ((r = 1 ∧ HS MI N y N) ∨ (r = 0 ∧ ¬ HS MI N y N))))) : ∀ (n j : Nat) (v : Int), hoB MI N y j v → j ≤ N → N < j + n → V X (0, 0) 110 Q z_rf MI ML 69 [(4, .int (iI (j : Int))), (3, .int (iI v)), (1, .long (lJ (A : Int))), (0, .ref (Q 90))] [] := by
  intro n
  induction n with
  | zero => intro j v G hj hn; exact absurd hn (by omega)
  | succ n ih =>
    intro j v G hj hn
    have hv9 : rg v := by rcases G with ⟨q, -⟩ | ⟨q, -⟩ <;> exact ⟨by omega, by omega⟩
    refine v_iload K 0 dX9_holds_69 rfl ?_
    refine v_aload_n K 3 dX9_holds_71 rfl rfl ?_
    refine v_geti K ff_X9_79 (by decide) rfl rfl dX9_holds_72 ?_
    refine v_eqi ((N : Int)) (hN) ?_
    refine v_icmp_ge K 158 ⟨by omega, by omega⟩ ⟨by omega, by omega⟩ dX9_holds_75 (by decide) (fun h75 => ?_) (fun h75 => ?_)
    · obtain e9 : j = N := (by omega)
      rw [e9] at G
      refine v_iload_n K 1 dX9_holds_158 rfl rfl ?_
      exact v_rz K E (by rcases G with ⟨q, -⟩ | ⟨q, -⟩ <;> omega) dX9_holds_159 (by refine ⟨rfl, rfl, ?_⟩; rcases G with ⟨q, q2⟩ | ⟨q, q2⟩; (first | exact Or.inl ⟨q, q2⟩ | exact absurd q (by omega)); exact Or.inr ⟨q, q2⟩)
    · refine v_iload_n K 1 dX9_holds_78 rfl rfl ?_
      refine v_if_eq K 158 hv9 dX9_holds_79 (by decide) (fun h79 => ?_) (fun h79 => ?_)
      · refine v_iload_n K 1 dX9_holds_158 rfl rfl ?_
        exact v_rz K E (by rcases G with ⟨q, -⟩ | ⟨q, -⟩ <;> omega) dX9_holds_159 (by refine ⟨rfl, rfl, ?_⟩; rcases G with ⟨q, q2⟩ | ⟨q, q2⟩; (first | exact Or.inl ⟨q, q2⟩ | exact absurd q (by omega)); exact Or.inr ⟨q, q2⟩)
      · refine v_lconst K 0 dX9_holds_82 rfl ?_
        refine v_lstore K (fun q9 => [(5, .long (lJ q9)), (4, .int (iI (j : Int))), (3, .int (iI v)), (1, .long (lJ (A : Int))), (0, .ref (Q 90))]) dX9_holds_83 (by decide) (fun _ => rfl) (fun s hs => ?_)
        refine v_iconst K dX9_holds_85 ?_
        refine v_istore K (fun q9 => [(7, .int (iI q9)), (5, .long (lJ s)), (4, .int (iI (j : Int))), (3, .int (iI v)), (1, .long (lJ (A : Int))), (0, .ref (Q 90))]) dX9_holds_86 (by decide) (fun _ => rfl) (fun k0 hk0 => ?_)
        subst hs hk0
        refine l_X9_holds_s K N hN h1 h5 y W F A hA hd j (by omega) v ?_ 6 0 (by omega) (by omega)
        obtain ⟨d, d0, de⟩ := ho_sum F hA hd j
        have B := ho_bd F h5 (show j < N by omega)
        have R := ho_rl d0 de B.1 B.2
        have hv1 : v = 1 ∧ HS MI N y j := by rcases G with q | ⟨q, -⟩; exact q; exact absurd q h79
        refine v_lload K 1 dX9_holds_139 rfl ?_
        refine v_lconst K 0 dX9_holds_141 rfl ?_
        refine v_lcmp_lt K 150 (rl9 (by omega) (by omega)) (rl9 (by omega) (by omega)) dX9_holds_142 dX9_holds_143 (by decide) (fun h142 => ?_) (fun h142 => ?_)
        · refine v_iconst K dX9_holds_150 ?_
          refine v_istore_n K (fun q9 => [(3, .int (iI q9)), (7, .int (iI (N : Int))), (5, .long (lJ (sumK (fun i => ML 105 i * ((A : Int) / ML 106 i) * rT MI i j) N))), (4, .int (iI (j : Int))), (1, .long (lJ (A : Int))), (0, .ref (Q 90))]) dX9_holds_151 rfl (by decide) (fun _ => rfl) (fun v2 hv2 => ?_)
          refine v_iinc K 3 (fun q9 => [(4, .int (iI q9)), (3, .int (iI v2)), (7, .int (iI (N : Int))), (5, .long (lJ (sumK (fun i => ML 105 i * ((A : Int) / ML 106 i) * rT MI i j) N))), (1, .long (lJ (A : Int))), (0, .ref (Q 90))]) dX9_holds_152 rfl (by decide) (fun _ => rfl) (fun w hw => ?_)
          refine v_goto K 69 dX9_holds_155 (by decide) ?_
          obtain rfl : w = ((j + 1 : Nat) : Int) := by omega
          refine v_sub K [0, 1, 4, 5] rfl ?_
          exact ih (j + 1) v2 (by first | exact Or.inl ⟨hv2, hv1.2.1, fun q hq => by by_cases e : q = j; (subst e; exact R.2.2.mp (by omega)); exact hv1.2.2 q (by omega)⟩ | exact Or.inr ⟨hv2, fun hh => by have := R.2.2.mpr (hh.2 j (by omega)); omega⟩) (by omega) (by omega)
        · refine v_iconst K dX9_holds_146 ?_
          refine v_goto K 151 dX9_holds_147 (by decide) ?_
          refine v_istore_n K (fun q9 => [(3, .int (iI q9)), (7, .int (iI (N : Int))), (5, .long (lJ (sumK (fun i => ML 105 i * ((A : Int) / ML 106 i) * rT MI i j) N))), (4, .int (iI (j : Int))), (1, .long (lJ (A : Int))), (0, .ref (Q 90))]) dX9_holds_151 rfl (by decide) (fun _ => rfl) (fun v2 hv2 => ?_)
          refine v_iinc K 3 (fun q9 => [(4, .int (iI q9)), (3, .int (iI v2)), (7, .int (iI (N : Int))), (5, .long (lJ (sumK (fun i => ML 105 i * ((A : Int) / ML 106 i) * rT MI i j) N))), (1, .long (lJ (A : Int))), (0, .ref (Q 90))]) dX9_holds_152 rfl (by decide) (fun _ => rfl) (fun w hw => ?_)
          refine v_goto K 69 dX9_holds_155 (by decide) ?_
          obtain rfl : w = ((j + 1 : Nat) : Int) := by omega
          refine v_sub K [0, 1, 4, 5] rfl ?_
          exact ih (j + 1) v2 (by first | exact Or.inl ⟨hv2, hv1.2.1, fun q hq => by by_cases e : q = j; (subst e; exact R.2.2.mp (by omega)); exact hv1.2.2 q (by omega)⟩ | exact Or.inr ⟨hv2, fun hh => by have := R.2.2.mpr (hh.2 j (by omega)); omega⟩) (by omega) (by omega)
set_option maxRecDepth 100000 in
set_option maxHeartbeats 4000000 in
theorem l_X9_holds_a {X : VX} {Q : Nat → Nat} {MI ML : ZM} (K : VK X cX9_holds RX9 8 (some .boolean) 1 29 0 0) (N : Nat) (hN : MI 90 4 = N) (h1 : 1 ≤ N) (h5 : N ≤ 5) (y : Nat → Int) (W : Int) (F : frc MI ML N y W) (E : VE X 0 0 110 Q (zq Q (zI fun r M L => M = MI ∧ L = ML ∧ ((r = 1 ∧ HS MI N y N) ∨ (r = 0 ∧ ¬ HS MI N y N))))) : ∀ (n k : Nat) (a v : Int), hoA ML y W k a v → k ≤ N → N < k + n → V X (0, 0) 110 Q z_rf MI ML 7 [(4, .int (iI (k : Int))), (3, .int (iI v)), (1, .long (lJ a)), (0, .ref (Q 90))] [] := by
  intro n
  induction n with
  | zero => intro k a v G hk hn; exact absurd hn (by omega)
  | succ n ih =>
    intro k a v G hk hn
    refine v_iload K 0 dX9_holds_7 rfl ?_
    refine v_aload_n K 3 dX9_holds_9 rfl rfl ?_
    refine v_geti K ff_X9_79 (by decide) rfl rfl dX9_holds_10 ?_
    refine v_eqi ((N : Int)) (hN) ?_
    refine v_icmp_ge K 66 ⟨by omega, by omega⟩ ⟨by omega, by omega⟩ dX9_holds_13 (by decide) (fun h13 => ?_) (fun h13 => ?_)
    · obtain e9 : k = N := (by omega)
      rw [e9] at G
      refine v_iconst K dX9_holds_66 ?_
      refine v_istore K (fun q9 => [(4, .int (iI q9)), (3, .int (iI v)), (1, .long (lJ a)), (0, .ref (Q 90))]) dX9_holds_67 (by decide) (fun _ => rfl) (fun j0 hj0 => ?_)
      obtain ⟨⟨A, hA, hAW, hAd⟩, G2⟩ := G
      subst hA hj0
      exact l_X9_holds_b K N hN h1 h5 y W F A hAW hAd E 6 0 v (by rcases G2 with ⟨q, q2⟩ | ⟨q, q1, q2, q3⟩; exact Or.inl ⟨q, q2, fun j hj => absurd hj (by omega)⟩; exact Or.inr ⟨q, fun hh => by have := hh.1 q1 q2; omega⟩) (by omega) (by omega)
    · have f9 := F.2.2.1 k (by omega)
      have g9 := frc_q F (show k < N by omega)
      have w1 := F.2.1
      obtain ⟨⟨A, hA, hAW, hAd⟩, G2⟩ := G
      have a0 : (A : Int) ≤ W := Int.le_of_dvd F.1 hAW
      have a1 : 0 < A := by have h0 := F.1; have q : A ≠ 0 := (fun z => by subst z; have := Int.zero_dvd.mp hAW; omega); omega
      have hv9 : rg v := by rcases G2 with ⟨q, -⟩ | ⟨q, -⟩ <;> exact ⟨by omega, by omega⟩
      have eg : Int.gcd a (ML 106 k) = Nat.gcd A (ML 106 k).toNat := by
        have e1 : ML 106 k = (((ML 106 k).toNat : Nat) : Int) := by omega
        rw [e1, hA]; rfl
      have gp : 0 < Nat.gcd A (ML 106 k).toNat := Nat.gcd_pos_of_pos_left _ a1
      have gl : Nat.gcd A (ML 106 k).toNat ≤ A := Nat.gcd_le_left _ a1
      have hW2 : ((Nat.lcm A (ML 106 k).toNat : Nat) : Int) ∣ W := by
        have e1 : W = ((W.toNat : Nat) : Int) := by omega
        rw [e1]
        refine Int.natCast_dvd_natCast.mpr (Nat.lcm_dvd ?_ ?_)
        · refine Int.natCast_dvd_natCast.mp ?_
          rw [← e1]; exact hAW
        · refine Int.natCast_dvd_natCast.mp ?_
          rw [← e1, show (((ML 106 k).toNat : Nat) : Int) = ML 106 k by omega]
          obtain ⟨t, ht, -⟩ := g9.2.2.2.2
          exact ⟨t, ht⟩
      have hd2 : ∀ q, q < k + 1 → ML 106 q ∣ ((Nat.lcm A (ML 106 k).toNat : Nat) : Int) := by
        intro q hq
        by_cases e : q = k
        · subst e
          have := Int.natCast_dvd_natCast.mpr (Nat.dvd_lcm_right A (ML 106 q).toNat)
          rw [show (((ML 106 q).toNat : Nat) : Int) = ML 106 q by omega] at this
          exact this
        · exact Int.dvd_trans (hAd q (by omega)) (Int.natCast_dvd_natCast.mpr (Nat.dvd_lcm_left A (ML 106 k).toNat))
      refine v_iload_n K 1 dX9_holds_16 rfl rfl ?_
      refine v_if_eq K 36 hv9 dX9_holds_17 (by decide) (fun h17 => ?_) (fun h17 => ?_)
      · refine v_iconst K dX9_holds_36 ?_
        refine v_istore_n K (fun q9 => [(3, .int (iI q9)), (4, .int (iI (k : Int))), (1, .long (lJ a)), (0, .ref (Q 90))]) dX9_holds_37 rfl (by decide) (fun _ => rfl) (fun v2 hv2 => ?_)
        refine v_lload_n K 2 dX9_holds_38 rfl rfl ?_
        refine v_lload_n K 2 dX9_holds_39 rfl rfl ?_
        refine v_aload_n K 3 dX9_holds_40 rfl rfl ?_
        refine v_getr K ff_X9_60 (by decide) rfl rfl rfl dX9_holds_41 ?_
        refine v_iload K 1 dX9_holds_44 rfl ?_
        refine v_lald K (k) (by decide) rfl (by omega) (by show _ < 5; omega) dX9_holds_46 ?_
        refine v_cSl K (c_X9_divisor a (ML 106 k) (by omega) (by omega) (by omega) (by omega)) rfl fc_X9_144 wt_X9_divisor rfl (by decide) (Nat.le_of_ble_eq_true rfl) dX9_holds_47 (fun r47 M47 L47 h47 => ?_)
        obtain ⟨hm47, hl47, hr47⟩ := h47
        subst M47 L47
        rw [eg] at hr47
        refine v_ldiv K (((A / Nat.gcd A (ML 106 k).toNat : Nat) : Int)) (lJ_ne (rl9 (by omega) (by omega)) (by omega)) (lJ_divx (by rw [hA, hr47, ← Int.natCast_mul, Nat.mul_div_cancel' (Nat.gcd_dvd_left A _)]) (rl9 (by omega) (by omega)) (rl9 (by omega) (by omega)) (by omega)) dX9_holds_50 ?_
        refine v_aload_n K 3 dX9_holds_51 rfl rfl ?_
        refine v_getr K ff_X9_60 (by decide) rfl rfl rfl dX9_holds_52 ?_
        refine v_iload K 1 dX9_holds_55 rfl ?_
        refine v_lald K (k) (by decide) rfl (by omega) (by show _ < 5; omega) dX9_holds_57 ?_
        refine v_lmul K dX9_holds_58 ?_
        refine v_lstore_n K (fun q9 => [(1, .long (lJ q9)), (3, .int (iI v2)), (4, .int (iI (k : Int))), (0, .ref (Q 90))]) dX9_holds_59 rfl (by decide) (fun _ => rfl) (fun a2 ha2 => ?_)
        have ha2 : a2 = ((Nat.lcm A (ML 106 k).toNat : Nat) : Int) := by
          rw [ha2, ← lcm_go, Int.natCast_mul, show (((ML 106 k).toNat : Nat) : Int) = ML 106 k by omega]
        refine v_iinc K 2 (fun q9 => [(4, .int (iI q9)), (1, .long (lJ a2)), (3, .int (iI v2)), (0, .ref (Q 90))]) dX9_holds_60 rfl (by decide) (fun _ => rfl) (fun w hw => ?_)
        refine v_goto K 7 dX9_holds_63 (by decide) ?_
        obtain rfl : w = ((k + 1 : Nat) : Int) := by omega
        refine v_sub K [0, 2, 1, 3] rfl ?_
        refine ih (k + 1) a2 v2 ⟨⟨Nat.lcm A (ML 106 k).toNat, ha2, hW2, hd2⟩, (by first | exact Or.inl ⟨hv2, fun q hq => by by_cases e : q = k; (subst e; exact g9.2.2.2.1.mp (by omega)); (rcases G2 with ⟨-, z⟩ | ⟨z, -⟩; exact z q (by omega); exact absurd z h17)⟩ | exact Or.inr ⟨hv2, by rcases G2 with ⟨z, -⟩ | ⟨-, q, q1, q2⟩; exact absurd z (by omega); exact ⟨q, by omega, q2⟩⟩ | exact Or.inr ⟨hv2, k, by omega, by have := g9.2.2.2.1.mpr; omega⟩)⟩ (by omega) (by omega)
      · refine v_aload_n K 3 dX9_holds_20 rfl rfl ?_
        refine v_getr K ff_X9_57 (by decide) rfl rfl rfl dX9_holds_21 ?_
        refine v_iload K 0 dX9_holds_24 rfl ?_
        refine v_lald K (k) (by decide) rfl (by omega) (by show _ < 5; omega) dX9_holds_26 ?_
        refine v_lconst K 0 dX9_holds_27 rfl ?_
        refine v_lcmp_lt K 36 (rl9 (by omega) (by omega)) (rl9 (by omega) (by omega)) dX9_holds_28 dX9_holds_29 (by decide) (fun h28 => ?_) (fun h28 => ?_)
        · refine v_iconst K dX9_holds_36 ?_
          refine v_istore_n K (fun q9 => [(3, .int (iI q9)), (4, .int (iI (k : Int))), (1, .long (lJ a)), (0, .ref (Q 90))]) dX9_holds_37 rfl (by decide) (fun _ => rfl) (fun v2 hv2 => ?_)
          refine v_lload_n K 2 dX9_holds_38 rfl rfl ?_
          refine v_lload_n K 2 dX9_holds_39 rfl rfl ?_
          refine v_aload_n K 3 dX9_holds_40 rfl rfl ?_
          refine v_getr K ff_X9_60 (by decide) rfl rfl rfl dX9_holds_41 ?_
          refine v_iload K 1 dX9_holds_44 rfl ?_
          refine v_lald K (k) (by decide) rfl (by omega) (by show _ < 5; omega) dX9_holds_46 ?_
          refine v_cSl K (c_X9_divisor a (ML 106 k) (by omega) (by omega) (by omega) (by omega)) rfl fc_X9_144 wt_X9_divisor rfl (by decide) (Nat.le_of_ble_eq_true rfl) dX9_holds_47 (fun r47 M47 L47 h47 => ?_)
          obtain ⟨hm47, hl47, hr47⟩ := h47
          subst M47 L47
          rw [eg] at hr47
          refine v_ldiv K (((A / Nat.gcd A (ML 106 k).toNat : Nat) : Int)) (lJ_ne (rl9 (by omega) (by omega)) (by omega)) (lJ_divx (by rw [hA, hr47, ← Int.natCast_mul, Nat.mul_div_cancel' (Nat.gcd_dvd_left A _)]) (rl9 (by omega) (by omega)) (rl9 (by omega) (by omega)) (by omega)) dX9_holds_50 ?_
          refine v_aload_n K 3 dX9_holds_51 rfl rfl ?_
          refine v_getr K ff_X9_60 (by decide) rfl rfl rfl dX9_holds_52 ?_
          refine v_iload K 1 dX9_holds_55 rfl ?_
          refine v_lald K (k) (by decide) rfl (by omega) (by show _ < 5; omega) dX9_holds_57 ?_
          refine v_lmul K dX9_holds_58 ?_
          refine v_lstore_n K (fun q9 => [(1, .long (lJ q9)), (3, .int (iI v2)), (4, .int (iI (k : Int))), (0, .ref (Q 90))]) dX9_holds_59 rfl (by decide) (fun _ => rfl) (fun a2 ha2 => ?_)
          have ha2 : a2 = ((Nat.lcm A (ML 106 k).toNat : Nat) : Int) := by
            rw [ha2, ← lcm_go, Int.natCast_mul, show (((ML 106 k).toNat : Nat) : Int) = ML 106 k by omega]
          refine v_iinc K 2 (fun q9 => [(4, .int (iI q9)), (1, .long (lJ a2)), (3, .int (iI v2)), (0, .ref (Q 90))]) dX9_holds_60 rfl (by decide) (fun _ => rfl) (fun w hw => ?_)
          refine v_goto K 7 dX9_holds_63 (by decide) ?_
          obtain rfl : w = ((k + 1 : Nat) : Int) := by omega
          refine v_sub K [0, 2, 1, 3] rfl ?_
          refine ih (k + 1) a2 v2 ⟨⟨Nat.lcm A (ML 106 k).toNat, ha2, hW2, hd2⟩, (by first | exact Or.inl ⟨hv2, fun q hq => by by_cases e : q = k; (subst e; exact g9.2.2.2.1.mp (by omega)); (rcases G2 with ⟨-, z⟩ | ⟨z, -⟩; exact z q (by omega); exact absurd z h17)⟩ | exact Or.inr ⟨hv2, by rcases G2 with ⟨z, -⟩ | ⟨-, q, q1, q2⟩; exact absurd z (by omega); exact ⟨q, by omega, q2⟩⟩ | exact Or.inr ⟨hv2, k, by omega, by have := g9.2.2.2.1.mpr; omega⟩)⟩ (by omega) (by omega)
        · refine v_iconst K dX9_holds_32 ?_
          refine v_goto K 37 dX9_holds_33 (by decide) ?_
          refine v_istore_n K (fun q9 => [(3, .int (iI q9)), (4, .int (iI (k : Int))), (1, .long (lJ a)), (0, .ref (Q 90))]) dX9_holds_37 rfl (by decide) (fun _ => rfl) (fun v2 hv2 => ?_)
          refine v_lload_n K 2 dX9_holds_38 rfl rfl ?_
          refine v_lload_n K 2 dX9_holds_39 rfl rfl ?_
          refine v_aload_n K 3 dX9_holds_40 rfl rfl ?_
          refine v_getr K ff_X9_60 (by decide) rfl rfl rfl dX9_holds_41 ?_
          refine v_iload K 1 dX9_holds_44 rfl ?_
          refine v_lald K (k) (by decide) rfl (by omega) (by show _ < 5; omega) dX9_holds_46 ?_
          refine v_cSl K (c_X9_divisor a (ML 106 k) (by omega) (by omega) (by omega) (by omega)) rfl fc_X9_144 wt_X9_divisor rfl (by decide) (Nat.le_of_ble_eq_true rfl) dX9_holds_47 (fun r47 M47 L47 h47 => ?_)
          obtain ⟨hm47, hl47, hr47⟩ := h47
          subst M47 L47
          rw [eg] at hr47
          refine v_ldiv K (((A / Nat.gcd A (ML 106 k).toNat : Nat) : Int)) (lJ_ne (rl9 (by omega) (by omega)) (by omega)) (lJ_divx (by rw [hA, hr47, ← Int.natCast_mul, Nat.mul_div_cancel' (Nat.gcd_dvd_left A _)]) (rl9 (by omega) (by omega)) (rl9 (by omega) (by omega)) (by omega)) dX9_holds_50 ?_
          refine v_aload_n K 3 dX9_holds_51 rfl rfl ?_
          refine v_getr K ff_X9_60 (by decide) rfl rfl rfl dX9_holds_52 ?_
          refine v_iload K 1 dX9_holds_55 rfl ?_
          refine v_lald K (k) (by decide) rfl (by omega) (by show _ < 5; omega) dX9_holds_57 ?_
          refine v_lmul K dX9_holds_58 ?_
          refine v_lstore_n K (fun q9 => [(1, .long (lJ q9)), (3, .int (iI v2)), (4, .int (iI (k : Int))), (0, .ref (Q 90))]) dX9_holds_59 rfl (by decide) (fun _ => rfl) (fun a2 ha2 => ?_)
          have ha2 : a2 = ((Nat.lcm A (ML 106 k).toNat : Nat) : Int) := by
            rw [ha2, ← lcm_go, Int.natCast_mul, show (((ML 106 k).toNat : Nat) : Int) = ML 106 k by omega]
          refine v_iinc K 2 (fun q9 => [(4, .int (iI q9)), (1, .long (lJ a2)), (3, .int (iI v2)), (0, .ref (Q 90))]) dX9_holds_60 rfl (by decide) (fun _ => rfl) (fun w hw => ?_)
          refine v_goto K 7 dX9_holds_63 (by decide) ?_
          obtain rfl : w = ((k + 1 : Nat) : Int) := by omega
          refine v_sub K [0, 2, 1, 3] rfl ?_
          refine ih (k + 1) a2 v2 ⟨⟨Nat.lcm A (ML 106 k).toNat, ha2, hW2, hd2⟩, (by first | exact Or.inl ⟨hv2, fun q hq => by by_cases e : q = k; (subst e; exact g9.2.2.2.1.mp (by omega)); (rcases G2 with ⟨-, z⟩ | ⟨z, -⟩; exact z q (by omega); exact absurd z h17)⟩ | exact Or.inr ⟨hv2, by rcases G2 with ⟨z, -⟩ | ⟨-, q, q1, q2⟩; exact absurd z (by omega); exact ⟨q, by omega, q2⟩⟩ | exact Or.inr ⟨hv2, k, by omega, by have := g9.2.2.2.1.mpr; omega⟩)⟩ (by omega) (by omega)
set_option maxRecDepth 100000 in
set_option maxHeartbeats 4000000 in
theorem c_X9_holds {l : Launch} {D : va_G} {Z : ZC} {Q : Nat → Nat} {MI ML : ZM} (N : Nat) (hN : MI 90 4 = N) (h1 : 1 ≤ N) (h5 : N ≤ 5) (y : Nat → Int) (W : Int) (F : frc MI ML N y W) : C_X9_holds l D Z Q [.ref (Q 90)] MI ML (zI fun r M L => M = MI ∧ L = ML ∧ ((r = 1 ∧ HS MI N y N) ∨ (r = 0 ∧ ¬ HS MI N y N))) := by
  refine CM.of (by decide +kernel) (Nat.le_of_ble_eq_true rfl) ?_
  intro X K E _ _ _ _
  show V X (0, 0) 110 Q z_rf MI ML 0 [(0, .ref (Q 90))] []
  refine v_lconst K 1 dX9_holds_0 rfl ?_
  refine v_lstore_n K (fun q9 => [(1, .long (lJ q9)), (0, .ref (Q 90))]) dX9_holds_1 rfl (by decide) (fun _ => rfl) (fun a ha => ?_)
  refine v_iconst K dX9_holds_2 ?_
  refine v_istore_n K (fun q9 => [(3, .int (iI q9)), (1, .long (lJ a)), (0, .ref (Q 90))]) dX9_holds_3 rfl (by decide) (fun _ => rfl) (fun v hv => ?_)
  refine v_iconst K dX9_holds_4 ?_
  refine v_istore K (fun q9 => [(4, .int (iI q9)), (3, .int (iI v)), (1, .long (lJ a)), (0, .ref (Q 90))]) dX9_holds_5 (by decide) (fun _ => rfl) (fun k0 hk0 => ?_)
  subst hk0
  exact l_X9_holds_a K N hN h1 h5 y W F E 6 0 a v ⟨⟨1, by rw [ha]; rfl, ⟨W, by omega⟩, fun q hq => absurd hq (by omega)⟩, Or.inl ⟨hv, fun q hq => absurd hq (by omega)⟩⟩ (by omega) (by omega)
def frb (ML : ZM) (N : Nat) (z : Nat → Int) (U : Int) : Prop := 0 < U ∧ ∀ q, q < N → 0 < ML 108 q ∧ ML 108 q ≤ 50000 ∧ -50000 ≤ ML 107 q ∧ ML 107 q ≤ 50000 ∧ Int.gcd (ML 107 q) (ML 108 q) = 1 ∧ ML 108 q * z q = ML 107 q * U
theorem ig_sg {b u c w y z W U : Int} (hb : 0 < b) (hc : 0 < c) (hW : 0 < W) (hU : 0 < U) (h1 : b * y = u * W) (h2 : c * z = w * U) : (u * c - w * b = 0 ↔ y * U - z * W = 0) ∧ (0 < u * c - w * b ↔ 0 < y * U - z * W) := by
  have key : (u * c - w * b) * (W * U) = (b * c) * (y * U - z * W) := by grind
  have p1 := Int.mul_pos hW hU
  have p2 := Int.mul_pos hb hc
  have up : 0 < u * c - w * b → 0 < y * U - z * W := by
    intro h
    by_cases e : 0 < y * U - z * W
    · exact e
    · have a := Int.mul_pos h p1
      have c := Int.mul_nonneg (Int.le_of_lt p2) (show 0 ≤ - (y * U - z * W) by omega)
      grind
  have dn : 0 < y * U - z * W → 0 < u * c - w * b := by
    intro h
    by_cases e : 0 < u * c - w * b
    · exact e
    · have a := Int.mul_pos p2 h
      have c := Int.mul_nonneg (Int.le_of_lt p1) (show 0 ≤ - (u * c - w * b) by omega)
      grind
  refine ⟨⟨fun h => ?_, fun h => ?_⟩, up, dn⟩
  · rw [h, Int.zero_mul] at key
    rcases Int.mul_eq_zero.mp key.symm with q | q
    · omega
    · exact q
  · rw [h, Int.mul_zero] at key
    rcases Int.mul_eq_zero.mp key with q | q
    · exact q
    · omega
set_option maxRecDepth 100000 in
set_option maxHeartbeats 4000000 in
theorem l_X9_isGreater {X : VX} {Q : Nat → Nat} {MI ML : ZM} (K : VK X cX9_isGreater RX9 4 (some .boolean) 0 0 0 0) (N : Nat) (hN : MI 90 4 = N) (h1 : 1 ≤ N) (h5 : N ≤ 5) (y : Nat → Int) (W : Int) (F : frc MI ML N y W) (z : Nat → Int) (U : Int) (B : frb ML N z U) (E : VE X 0 0 110 Q (zq Q (zI fun r M L => M = MI ∧ L = ML ∧ ((r = 1 ∧ lxg N (fun i => y i * U - z i * W)) ∨ (r = 0 ∧ lxg N (fun i => z i * W - y i * U)))))) : ∀ (n k : Nat), (∀ q, q < k → y q * U - z q * W = 0) → k ≤ N → N < k + n → V X (0, 0) 110 Q z_rf MI ML 2 [(1, .int (iI (k : Int))), (0, .ref (Q 90))] [] := by
  intro n
  induction n with
  | zero => intro k G hk hn; exact absurd hn (by omega)
  | succ n ih =>
    intro k G hk hn
    refine v_iload_n K 0 dX9_isGreater_2 rfl rfl ?_
    refine v_aload_n K 1 dX9_isGreater_3 rfl rfl ?_
    refine v_geti K ff_X9_79 (by decide) rfl rfl dX9_isGreater_4 ?_
    refine v_eqi ((N : Int)) (hN) ?_
    refine v_icmp_ge K 62 ⟨by omega, by omega⟩ ⟨by omega, by omega⟩ dX9_isGreater_7 (by decide) (fun h7 => ?_) (fun h7 => ?_)
    · refine v_iconst K dX9_isGreater_62 ?_
      exact v_rz K E (Or.inl rfl) dX9_isGreater_63 ⟨rfl, rfl, Or.inr ⟨rfl, fun i hi _ => by have := G i (by omega); show 0 ≤ z i * W - y i * U; omega⟩⟩
    · have f9 := F.2.2.1 k (by omega)
      have g9 := frc_q F (show k < N by omega)
      have b9 := B.2 k (by omega)
      have S := ig_sg f9.1 b9.1 F.1 B.1 f9.2.2.1 b9.2.2.2.2.2
      have m1 := mul_bd (B := 50000) g9.2.1 g9.2.2.1 (show -50000 ≤ ML 108 k by omega) b9.2.1
      have m2 := mul_bd (B := 50000) b9.2.2.1 b9.2.2.2.1 (show -50000 ≤ ML 106 k by omega) g9.1
      refine v_aload_n K 1 dX9_isGreater_10 rfl rfl ?_
      refine v_getr K ff_X9_57 (by decide) rfl rfl rfl dX9_isGreater_11 ?_
      refine v_iload_n K 0 dX9_isGreater_14 rfl rfl ?_
      refine v_lald K (k) (by decide) rfl (by omega) (by show _ < 5; omega) dX9_isGreater_15 ?_
      refine v_aload_n K 1 dX9_isGreater_16 rfl rfl ?_
      refine v_getr K ff_X9_66 (by decide) rfl rfl rfl dX9_isGreater_17 ?_
      refine v_iload_n K 0 dX9_isGreater_20 rfl rfl ?_
      refine v_lald K (k) (by decide) rfl (by omega) (by show _ < 5; omega) dX9_isGreater_21 ?_
      refine v_lmul K dX9_isGreater_22 ?_
      refine v_aload_n K 1 dX9_isGreater_23 rfl rfl ?_
      refine v_getr K ff_X9_63 (by decide) rfl rfl rfl dX9_isGreater_24 ?_
      refine v_iload_n K 0 dX9_isGreater_27 rfl rfl ?_
      refine v_lald K (k) (by decide) rfl (by omega) (by show _ < 5; omega) dX9_isGreater_28 ?_
      refine v_aload_n K 1 dX9_isGreater_29 rfl rfl ?_
      refine v_getr K ff_X9_60 (by decide) rfl rfl rfl dX9_isGreater_30 ?_
      refine v_iload_n K 0 dX9_isGreater_33 rfl rfl ?_
      refine v_lald K (k) (by decide) rfl (by omega) (by show _ < 5; omega) dX9_isGreater_34 ?_
      refine v_lmul K dX9_isGreater_35 ?_
      refine v_lsub K dX9_isGreater_36 ?_
      refine v_lstore_n K (fun q9 => [(2, .long (lJ q9)), (1, .int (iI (k : Int))), (0, .ref (Q 90))]) dX9_isGreater_37 rfl (by decide) (fun _ => rfl) (fun b hb => ?_)
      subst hb
      refine v_lload_n K 0 dX9_isGreater_38 rfl rfl ?_
      refine v_lconst K 0 dX9_isGreater_39 rfl ?_
      refine v_lcmp_eq K 56 (rl9 (by omega) (by omega)) (rl9 (by omega) (by omega)) dX9_isGreater_40 dX9_isGreater_41 (by decide) (fun h40 => ?_) (fun h40 => ?_)
      · refine v_iinc K 1 (fun q9 => [(1, .int (iI q9)), (2, .long (lJ (ML 105 k * ML 108 k - ML 107 k * ML 106 k))), (0, .ref (Q 90))]) dX9_isGreater_56 rfl (by decide) (fun _ => rfl) (fun w hw => ?_)
        refine v_goto K 2 dX9_isGreater_59 (by decide) ?_
        obtain rfl : w = ((k + 1 : Nat) : Int) := by omega
        refine v_sub K [0, 2] rfl ?_
        exact ih (k + 1) (fun q hq => by by_cases e : q = k; (subst e; exact S.1.mp h40); exact G q (by omega)) (by omega) (by omega)
      · refine v_lload_n K 0 dX9_isGreater_44 rfl rfl ?_
        refine v_lconst K 0 dX9_isGreater_45 rfl ?_
        refine v_lcmp_le K 54 (rl9 (by omega) (by omega)) (rl9 (by omega) (by omega)) dX9_isGreater_46 dX9_isGreater_47 (by decide) (fun h46 => ?_) (fun h46 => ?_)
        · refine v_iconst K dX9_isGreater_54 ?_
          exact v_rz K E (Or.inl rfl) dX9_isGreater_55 (by
          refine ⟨rfl, rfl, ?_⟩
          have fin : ∀ (d : Nat → Int), (∀ q, q < k → d q = 0) → 0 ≤ d k → d k ≠ 0 → lxg N d := by
            intro d d1 d2 d3 i hi hj
            by_cases a : k < i
            · exact absurd (hj k a) d3
            · by_cases b : i = k
              · rw [b]; exact d2
              · rw [d1 i (by omega)]; omega
          have n0 : y k * U - z k * W ≠ 0 := fun h => h40 (S.1.mpr h)
          first
            | exact Or.inl ⟨rfl, fin (fun i => y i * U - z i * W) G (by have := S.2.mp (by omega); show 0 ≤ y k * U - z k * W; omega) n0⟩
            | exact Or.inr ⟨rfl, fin (fun i => z i * W - y i * U) (fun q hq => by have := G q hq; show z q * W - y q * U = 0; omega) (by have := S.2.mpr; show 0 ≤ z k * W - y k * U; omega) (by show z k * W - y k * U ≠ 0; omega)⟩)
        · refine v_iconst K dX9_isGreater_50 ?_
          refine v_goto K 55 dX9_isGreater_51 (by decide) ?_
          exact v_rz K E (Or.inr rfl) dX9_isGreater_55 (by
          refine ⟨rfl, rfl, ?_⟩
          have fin : ∀ (d : Nat → Int), (∀ q, q < k → d q = 0) → 0 ≤ d k → d k ≠ 0 → lxg N d := by
            intro d d1 d2 d3 i hi hj
            by_cases a : k < i
            · exact absurd (hj k a) d3
            · by_cases b : i = k
              · rw [b]; exact d2
              · rw [d1 i (by omega)]; omega
          have n0 : y k * U - z k * W ≠ 0 := fun h => h40 (S.1.mpr h)
          first
            | exact Or.inl ⟨rfl, fin (fun i => y i * U - z i * W) G (by have := S.2.mp (by omega); show 0 ≤ y k * U - z k * W; omega) n0⟩
            | exact Or.inr ⟨rfl, fin (fun i => z i * W - y i * U) (fun q hq => by have := G q hq; show z q * W - y q * U = 0; omega) (by have := S.2.mpr; show 0 ≤ z k * W - y k * U; omega) (by show z k * W - y k * U ≠ 0; omega)⟩)
set_option maxRecDepth 100000 in
set_option maxHeartbeats 4000000 in
theorem c_X9_isGreater {l : Launch} {D : va_G} {Z : ZC} {Q : Nat → Nat} {MI ML : ZM} (N : Nat) (hN : MI 90 4 = N) (h1 : 1 ≤ N) (h5 : N ≤ 5) (y : Nat → Int) (W : Int) (F : frc MI ML N y W) (z : Nat → Int) (U : Int) (B : frb ML N z U) : C_X9_isGreater l D Z Q [.ref (Q 90)] MI ML (zI fun r M L => M = MI ∧ L = ML ∧ ((r = 1 ∧ lxg N (fun i => y i * U - z i * W)) ∨ (r = 0 ∧ lxg N (fun i => z i * W - y i * U)))) := by
  refine CM.of (by decide +kernel) (Nat.le_of_ble_eq_true rfl) ?_
  intro X K E _ _ _ _
  show V X (0, 0) 110 Q z_rf MI ML 0 [(0, .ref (Q 90))] []
  refine v_iconst K dX9_isGreater_0 ?_
  refine v_istore_n K (fun q9 => [(1, .int (iI q9)), (0, .ref (Q 90))]) dX9_isGreater_1 rfl (by decide) (fun _ => rfl) (fun y0 hy0 => ?_)
  subst hy0
  exact l_X9_isGreater K N hN h1 h5 y W F z U B E 6 0 (fun q hq => absurd hq (by omega)) (by omega) (by omega)
