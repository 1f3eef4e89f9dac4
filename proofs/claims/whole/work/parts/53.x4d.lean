theorem lge_eq {N : Nat} {x y : Nat → Int} (h : ∀ i, i < N → x i * sumK y N = y i * sumK x N) : lge N y x := fun i hi _ => by
  have := h i hi
  show 0 ≤ y i * sumK x N - x i * sumK y N
  omega
theorem in_pr {T : Nat → Nat → Int} {N : Nat} {y x : Nat → Int} (hx : inP T N x) (h0 : 0 < sumK y N) (he : ∀ i, i < N → x i * sumK y N = y i * sumK x N) (j : Nat) (hj : j < N) : 0 ≤ sumK (fun i => y i * T i j) N := by
  have x0 := hx.2
  have a := hx.1 (N + j) (by omega)
  rw [con_ge] at a
  have b := Int.mul_nonneg (Int.le_of_lt h0) a
  rw [← sumK_mul, sumK_congr (g := fun i => sumK x N * (y i * T i j)) N (fun i hi => by have := he i hi; grind), sumK_mul] at b
  exact Int.le_of_mul_le_mul_left (by rw [Int.mul_zero]; exact b) x0
/-- all corners before (m, e) are behind z -/
def cov (T : Nat → Nat → Int) (N : Nat) (z : Nat → Int) (W : Int) (m e : Nat) : Prop := ∀ t u, t < 2 ^ N → u < 2 ^ N → bts u 5 + 1 = bts t 5 → (t < m ∨ (t = m ∧ u < e)) → ∀ x, inP T N x → sumK (crn T (onL t N) (onL u N)) N ≠ 0 → (∀ i, i < N → x i * sumK (crn T (onL t N) (onL u N)) N = crn T (onL t N) (onL u N) i * sumK x N) → W ≠ 0 ∧ lge N z x
theorem cov_nx {T : Nat → Nat → Int} {N : Nat} {z : Nat → Int} {W : Int} {m e : Nat} (h : cov T N z W m e) (g : e < 2 ^ N → m < 2 ^ N → bts e 5 + 1 = bts m 5 → ∀ x, inP T N x → sumK (crn T (onL m N) (onL e N)) N ≠ 0 → (∀ i, i < N → x i * sumK (crn T (onL m N) (onL e N)) N = crn T (onL m N) (onL e N) i * sumK x N) → W ≠ 0 ∧ lge N z x) : cov T N z W m (e + 1) := by
  intro t u h1 h2 h3 h4 x hx hs hp
  by_cases q : t = m ∧ u = e
  · obtain ⟨rfl, rfl⟩ := q; exact g h2 h1 h3 x hx hs hp
  · exact h t u h1 h2 h3 (by omega) x hx hs hp
theorem cov_row {T : Nat → Nat → Int} {N : Nat} {z : Nat → Int} {W : Int} {m : Nat} (h : cov T N z W m (2 ^ N)) : cov T N z W (m + 1) 0 := fun t u h1 h2 h3 h4 => h t u h1 h2 h3 (by omega)
/-- a mix that is even where the corner is: the corner has no two signs -/
theorem no_mix {T : Nat → Nat → Int} {N : Nat} {c x : Nat → Int} (hx : inP T N x) (hs : sumK c N ≠ 0) (hp : ∀ i, i < N → x i * sumK c N = c i * sumK x N) (h : (∀ q, q < N → c q = 0) ∨ ((∃ q, q < N ∧ 0 < c q) ∧ ∃ q, q < N ∧ c q < 0)) : False := by
  rcases h with h | ⟨⟨q, q1, q2⟩, p, p1, p2⟩
  · exact hs (sumK_zero N h)
  · have a := hp q q1
    have b := hp p p1
    have xq := hx.1 q (by omega)
    rw [con_lt _ q1] at xq
    have xp := hx.1 p (by omega)
    rw [con_lt _ p1] at xp
    have X0 := hx.2
    have m1 := Int.mul_pos q2 X0
    have m2 := Int.mul_pos (show 0 < - c p by omega) X0
    by_cases s : 0 < sumK c N
    · have m3 := Int.mul_nonneg xp (Int.le_of_lt s)
      rw [Int.neg_mul] at m2; omega
    · have m3 := Int.mul_nonneg xq (show 0 ≤ - sumK c N by omega)
      rw [Int.mul_neg] at m3; omega
/-- turned or not, the same shares -/
theorem pr_sg {N : Nat} {c x y : Nat → Int} (hp : ∀ i, i < N → x i * sumK c N = c i * sumK x N) (h : (∀ q, q < N → y q = c q) ∨ (∀ q, q < N → y q = - c q)) : ∀ i, i < N → x i * sumK y N = y i * sumK x N := by
  intro i hi
  rcases h with h | h
  · rw [h i hi, sumK_congr N h]; exact hp i hi
  · rw [h i hi, sumK_congr (g := fun q => - c q) N h, sumK_neg]
    have := hp i hi
    rw [Int.mul_neg, Int.neg_mul]; omega
def fdS (T : Nat → Nat → Int) (MI M : ZM) (B N m e : Nat) : Prop := (∀ a b, a < B + 8 ∨ B + 11 < a → M a b = MI a b) ∧ M (B + 8) 5 = N ∧ mnT T M B N ∧ (M (B + 8) 1 = 0 ∨ (M (B + 8) 1 = sumK (M (B + 9)) N ∧ inP T N (M (B + 9)) ∧ ∀ q, q < N → 0 ≤ M (B + 9) q ∧ M (B + 9) q ≤ 10000)) ∧ cov T N (M (B + 9)) (M (B + 8) 1) m e
/-- a corner was tried, and nothing taken -/
theorem fdS_tr {T : Nat → Nat → Int} {MI M M' : ZM} {B N m e : Nat} (h : fdS T MI M B N m e) (hf : ∀ a b, a ≠ B + 10 → ¬ (a = B + 8 ∧ b = 3) → M' a b = M a b) : fdS T MI M' B N m e := by
  obtain ⟨h1, h2, h3, h4, h5⟩ := h
  have e9 : M' (B + 9) = M (B + 9) := by funext q; exact hf _ _ (by omega) (by omega)
  refine ⟨fun a b q => by rw [hf a b (by omega) (by omega)]; exact h1 a b q, by rw [hf _ _ (by omega) (by omega)]; exact h2, fun R C r1 r2 r3 => by rw [hf _ _ (by omega) (by omega)]; exact h3 R C r1 r2 r3, ?_, ?_⟩
  · rw [e9, hf _ _ (by omega) (by omega)]; exact h4
  · rw [e9, hf _ _ (by omega) (by omega)]; exact h5
theorem fdS_nx {T : Nat → Nat → Int} {MI M : ZM} {B N m e : Nat} (h : fdS T MI M B N m e) (g : e < 2 ^ N → m < 2 ^ N → bts e 5 + 1 = bts m 5 → ∀ x, inP T N x → sumK (crn T (onL m N) (onL e N)) N ≠ 0 → (∀ i, i < N → x i * sumK (crn T (onL m N) (onL e N)) N = crn T (onL m N) (onL e N) i * sumK x N) → M (B + 8) 1 ≠ 0 ∧ lge N (M (B + 9)) x) : fdS T MI M B N m (e + 1) := ⟨h.1, h.2.1, h.2.2.1, h.2.2.2.1, cov_nx h.2.2.2.2 g⟩
theorem fdS_row {T : Nat → Nat → Int} {MI M : ZM} {B N m : Nat} (h : fdS T MI M B N m (2 ^ N)) : fdS T MI M B N (m + 1) 0 := ⟨h.1, h.2.1, h.2.2.1, h.2.2.2.1, cov_row h.2.2.2.2⟩
theorem fdS_w {T : Nat → Nat → Int} {MI M : ZM} {B N m e : Nat} (h5 : N ≤ 5) (h : fdS T MI M B N m e) : (-50000 ≤ M (B + 8) 1 ∧ M (B + 8) 1 ≤ 50000) ∧ (M (B + 8) 1 ≠ 0 → ∀ q, q < N → -10000 ≤ M (B + 9) q ∧ M (B + 9) q ≤ 10000) := by
  rcases h.2.2.2.1 with q | ⟨q1, q2, q3⟩
  · exact ⟨by omega, fun z => absurd q z⟩
  · have b := sumK_bd (f := M (B + 9)) (B := 10000) N (fun i hi => by have := q3 i hi; omega)
    exact ⟨by omega, fun _ q hq => by have := q3 q hq; omega⟩
/-- the tried shares hold and are taken -/
theorem fdS_tk {T : Nat → Nat → Int} {MI M M' : ZM} {B N m e : Nat} {c : Nat → Int} (hcc : ∀ i, c i = crn T (onL m N) (onL e N) i) (h : fdS T MI M B N m e) (t1 : tcR M B N c 1) (hH : ∀ j, j < N → 0 ≤ sumK (fun i => M (B + 10) i * T i j) N) (hG : M (B + 8) 1 = 0 ∨ lxg N (fun i => M (B + 10) i * M (B + 8) 1 - M (B + 9) i * M (B + 8) 3)) (hf : ∀ a b, a ≠ B + 9 → ¬ (a = B + 8 ∧ b = 1) → M' a b = M a b) (hq : ∀ q, q < N → M' (B + 9) q = M (B + 10) q) (hw : M' (B + 8) 1 = M (B + 8) 3) : fdS T MI M' B N m (e + 1) := by
  obtain ⟨h1, h2, h3, h4, h5⟩ := h
  rcases t1 with ⟨-, y1, y2, y3, y4⟩ | ⟨z, -⟩
  case inr => exact absurd z (by decide)
  have eS : sumK (M' (B + 9)) N = sumK (M (B + 10)) N := sumK_congr N hq
  have yP : inP T N (M' (B + 9)) := by
    refine ⟨fun k hk => ?_, by rw [eS]; exact y2⟩
    by_cases a : k < N
    · rw [con_lt _ a, hq k a]; exact (y1 k a).1
    · rw [show k = N + (k - N) by omega, con_ge, sumK_congr (g := fun i => M (B + 10) i * T i (k - N)) N (fun i hi => by rw [hq i hi])]
      exact hH (k - N) (by omega)
  refine ⟨fun a b q => by rw [hf a b (by omega) (by omega)]; exact h1 a b q, by rw [hf _ _ (by omega) (by omega)]; exact h2, fun R C r1 r2 r3 => by rw [hf _ _ (by omega) (by omega)]; exact h3 R C r1 r2 r3, Or.inr ⟨by rw [hw, y3, eS], yP, fun q a => by rw [hq q a]; exact y1 q a⟩, ?_⟩
  have W0 : M' (B + 8) 1 ≠ 0 := by rw [hw, y3]; omega
  refine cov_nx (fun t u g1 g2 g3 g4 x hx hs hp => ⟨W0, ?_⟩) (fun _ _ _ x hx hs hp => ⟨W0, ?_⟩)
  · obtain ⟨w0, lz⟩ := h5 t u g1 g2 g3 g4 x hx hs hp
    rcases h4 with q | ⟨q1, q2, -⟩
    · exact absurd q w0
    · refine lge_trans yP.2 q2.2 hx.2 ?_ lz
      rcases hG with q | q
      · exact absurd q w0
      · intro i hi hj
        have a := q i hi (fun j hj' => by
          have := hj j hj'
          show M (B + 10) j * M (B + 8) 1 - M (B + 9) j * M (B + 8) 3 = 0
          rw [y3, q1, ← eS, ← hq j (by omega)]; exact this)
        have a : 0 ≤ M (B + 10) i * M (B + 8) 1 - M (B + 9) i * M (B + 8) 3 := a
        rw [y3, q1, ← eS, ← hq i hi] at a; exact a
  · refine lge_eq (fun i hi => ?_)
    rw [eS, hq i hi]
    have hs' : sumK c N = sumK (crn T (onL m N) (onL e N)) N := sumK_congr N (fun i _ => hcc i)
    exact pr_sg (c := c) (fun i hi => by rw [hs', hcc i]; exact hp i hi) y4 i hi
/-- no corner is left -/
theorem fdS_end {T : Nat → Nat → Int} {MI M : ZM} {B N : Nat} (h1 : 1 ≤ N) (h5 : N ≤ 5) (ha : ∀ i j, i < N → j < N → T i j = - T j i) (h : fdS T MI M B N (2 ^ N) 0) : M (B + 8) 1 = sumK (M (B + 9)) N ∧ mxI T N (M (B + 9)) ∧ ∀ q, q < N → 0 ≤ M (B + 9) q ∧ M (B + 9) q ≤ 10000 := by
  obtain ⟨-, -, -, c4, c5⟩ := h
  have all : ∀ y, inP T N y → ∃ w, inP T N w ∧ lge N w y ∧ M (B + 8) 1 ≠ 0 ∧ lge N (M (B + 9)) w := by
    intro y hy
    obtain ⟨s, w, s1, s2, s3, w1, w2, w3⟩ := mix_set (by omega) hy
    refine ⟨w, w1, w3, ?_⟩
    obtain ⟨k1, k2⟩ := corner h1 h5 s2 s3
    obtain ⟨t, t1, t2⟩ := mk_ex N (fun q => bt1 s q ≠ 1)
    obtain ⟨u, u1, u2⟩ := mk_ex N (fun q => bt1 s (N + q) = 1)
    have eL : onL t N = lvL s N := List.filter_congr (fun q hq => by simp only [t2 q (List.mem_range.mp hq)])
    have eE : onL u N = evL s N N := List.filter_congr (fun q hq => by simp only [u2 q (List.mem_range.mp hq)])
    have l1 := lvL_l s N
    have l2 := evL_l s N N
    rw [show N + N = 2 * N by omega, s2, ← eE, onL_l] at l2
    rw [← eL, onL_l] at l1
    have b1 := (bts_5 t (lt32 h5 t1) N (by omega) t1).1
    have b2 := (bts_5 u (lt32 h5 u1) N (by omega) u1).1
    refine c5 t u t1 u1 (by omega) (Or.inl t1) w w1 (by rw [eL, eE]; exact k1) ?_
    rw [eL, eE]
    intro i hi
    have z := s3 (fun i => sumK (crn T (lvL s N) (evL s N N)) N * w i + (- sumK w N) * crn T (lvL s N) (evL s N N) i) (by rw [sumK_lin]; grind) (fun q h2 hb => by rw [con_lin, w2 q h2 hb, k2 q h2 hb]; omega) i hi
    have z : sumK (crn T (lvL s N) (evL s N N)) N * w i + (- sumK w N) * crn T (lvL s N) (evL s N N) i = 0 := z
    grind
  obtain ⟨x, x1, x2, x3⟩ := mix_ex T N (by omega) ha
  have xP : inP T N x := by
    refine ⟨fun k hk => ?_, x2⟩
    by_cases e : k < N
    · rw [con_lt _ e]; exact x1 k e
    · rw [show k = N + (k - N) by omega, con_ge]; exact x3 (k - N) (by omega)
  rcases c4 with q | ⟨q1, q2, q3⟩
  · obtain ⟨w, -, -, w0, -⟩ := all x xP
    exact absurd q w0
  · refine ⟨q1, ⟨q2, fun y hy => ?_⟩, q3⟩
    obtain ⟨w, w1, w2, -, w3⟩ := all y hy
    exact lge_trans q2.2 w1.2 hy.2 w3 w2
set_option maxRecDepth 100000 in
set_option maxHeartbeats 4000000 in
theorem l_X4_find_e {X : VX} {Q : Nat → Nat} {MI ML : ZM} (K : VK X cX4_find RX4 7 none 4 96 0 0) (B : Nat) (hB : isCt B) (N : Nat) (h1 : 1 ≤ N) (h5 : N ≤ 5) (T : Nat → Nat → Int) (hTM : ∀ i j, i < 5 → MI (B + 3 + i) j = T i j) (hT : ∀ i k, i < N → k < N → -2 ≤ T i k ∧ T i k ≤ 2) (P : Nat) (hP : P = 2 ^ N) (hP2 : P ≤ 32) (m : Nat) (hm1 : 1 ≤ m) (hm : m < P) (t : Int) (ht : t = (bts m 5 : Nat) - 1) (kk : ∀ M, fdS T MI M B N m (2 ^ N) → V X (0, 0) 110 Q z_rf M ML 95 [(6, .int (iI (P : Int))), (5, .int (iI t)), (4, .int (iI (m : Int))), (3, .int (iI (P : Int))), (0, .ref (Q (B + 8))), (1, .ref (Q (B + 2))), (2, .int (iI (N : Int)))] []) : ∀ (n e : Nat) (M : ZM), fdS T MI M B N m e → e ≤ P → P < e + n → V X (0, 0) 110 Q z_rf M ML 43 [(6, .int (iI (e : Int))), (5, .int (iI t)), (4, .int (iI (m : Int))), (3, .int (iI (P : Int))), (0, .ref (Q (B + 8))), (1, .ref (Q (B + 2))), (2, .int (iI (N : Int)))] [] := by
  intro n
  induction n with
  | zero => intro e M G he hn; exact absurd hn (by omega)
  | succ n ih =>
    intro e M G he hn
    refine v_iload K 0 dX4_find_43 rfl ?_
    refine v_iload_n K 3 dX4_find_45 rfl rfl ?_
    refine v_icmp_ge K 95 ⟨by omega, by omega⟩ ⟨by omega, by omega⟩ dX4_find_46 (by decide) (fun h46 => ?_) (fun h46 => ?_)
    · obtain e9 : e = P := (by omega)
      rw [e9] at G ⊢
      rw [hP] at G
      exact kk M G
    · have m2 : m < 2 ^ N := by omega
      have e2 : e < 2 ^ N := by omega
      have m3 := lt32 h5 m2
      have e3 := lt32 h5 e2
      have b5 := bts_b m 5
      have b6 := bts_b e 5
      refine v_iload K 0 dX4_find_49 rfl ?_
      refine v_cSi K (c_J6_bitCount_0f7a4 e e3 _ rfl) rfl fc_X4_32 wt_J6_bitCount_0f7a4 rfl (by decide) (Nat.le_of_ble_eq_true rfl) dX4_find_51 (fun r51 M51 L51 h51 => ?_)
      obtain ⟨hm51, hl51, hr51⟩ := h51
      subst M51 L51
      refine v_iload K 1 dX4_find_54 rfl ?_
      refine v_icmp_ne K 89 ⟨by omega, by omega⟩ ⟨by omega, by omega⟩ dX4_find_56 (by decide) (fun h56 => ?_) (fun h56 => ?_)
      · have G8 : fdS T MI M B N m (e + 1) := fdS_nx G (fun _ _ a => absurd a (by omega))
        refine v_iinc K 0 (fun q9 => [(6, .int (iI q9)), (5, .int (iI t)), (4, .int (iI (m : Int))), (3, .int (iI (P : Int))), (0, .ref (Q (B + 8))), (1, .ref (Q (B + 2))), (2, .int (iI (N : Int)))]) dX4_find_89 rfl (by decide) (fun _ => rfl) (fun w hw => ?_)
        refine v_goto K 43 dX4_find_92 (by decide) ?_
        obtain rfl : w = ((e + 1 : Nat) : Int) := by omega
        exact ih (e + 1) _ G8 (by omega) (by omega)
      · have hbe : bts e 5 + 1 = bts m 5 := by omega
        have l5 := onL_l m N
        have l6 := onL_l e N
        have l7 := (bts_5 m m3 N (by omega) m2).1
        have l8 := (bts_5 e e3 N (by omega) e2).1
        have bd := crn_bd (T := T) (N := N) h5 hT (L := onL m N) (E := onL e N) (fun k hk => (onL_m.mp hk).1) (fun k hk => (onL_m.mp hk).1) (by omega) (by omega)
        refine v_aload_n K 4 dX4_find_59 rfl rfl ?_
        refine v_iload K 2 dX4_find_60 rfl ?_
        refine v_iload K 0 dX4_find_62 rfl ?_
        refine v_cVi K (c_X4_tryCorner B hB N G.2.1 h1 h5 T G.2.2.1 m e m2 e2 hbe _ (fun _ => rfl) bd _ _ rfl rfl) rfl fc_X4_38 wm_X4_tryCorner ws_X4_tryCorner (by have := ct_b hB; omega) 4 (mx_k hB).1 (by decide) rfl rfl (by decide) (Nat.le_of_ble_eq_true rfl) dX4_find_64 (fun r64 M64 L64 h64 => ?_)
        obtain ⟨hl64, f64, t64⟩ := h64
        subst L64
        have G1 := fdS_tr G f64
        have r01 : r64 = 0 ∨ r64 = 1 := by rcases t64 with q | q <;> omega
        refine v_if_eq K 89 ⟨by omega, by omega⟩ dX4_find_67 (by decide) (fun h67 => ?_) (fun h67 => ?_)
        · have G8 : fdS T MI M64 B N m (e + 1) := fdS_nx G1 (fun _ _ _ x hx hs hp => by
            rcases t64 with ⟨q, -⟩ | ⟨-, q⟩
            · exact absurd q (by omega)
            · exact (no_mix hx hs hp q).elim)
          refine v_iinc K 0 (fun q9 => [(6, .int (iI q9)), (5, .int (iI t)), (4, .int (iI (m : Int))), (3, .int (iI (P : Int))), (0, .ref (Q (B + 8))), (1, .ref (Q (B + 2))), (2, .int (iI (N : Int)))]) dX4_find_89 rfl (by decide) (fun _ => rfl) (fun w hw => ?_)
          refine v_goto K 43 dX4_find_92 (by decide) ?_
          obtain rfl : w = ((e + 1 : Nat) : Int) := by omega
          exact ih (e + 1) _ G8 (by omega) (by omega)
        · have r1 : r64 = 1 := by omega
          rw [r1] at t64
          have t65 := t64
          rcases t65 with ⟨-, y1, y2, y3, y4⟩ | ⟨z, -⟩
          case inr => exact absurd z (by decide)
          have cTM : ∀ i j, i < N → cT M64 B i j = T i j := fun i j hi => by show M64 (B + 3 + i) j = _; rw [G1.1 _ _ (Or.inl (by omega))]; exact hTM i j (by omega)
          have sy := sumK_bd (f := M64 (B + 10)) (B := 10000) N (fun i hi => by have := y1 i hi; omega)
          refine v_aload_n K 4 dX4_find_70 rfl rfl ?_
          refine v_aload_n K 5 dX4_find_71 rfl rfl ?_
          refine v_cVi K (c_X4_isHolding B hB N G1.2.1 h1 h5 (fun i k hi hk => by rw [cTM i k hi]; exact hT i k hi hk) (fun q hq => by have := y1 q hq; omega)) rfl fc_X4_42 wm_X4_isHolding ws_X4_isHolding (by have := ct_b hB; omega) 4 (mx_k hB).1 (by decide) rfl rfl (by decide) (Nat.le_of_ble_eq_true rfl) dX4_find_72 (fun r72 M72 L72 h72 => ?_)
          obtain ⟨hm72, hl72, h72⟩ := h72
          subst M72 L72
          have r02 : r72 = 0 ∨ r72 = 1 := by rcases h72 with q | q <;> omega
          have cS : ∀ j, sumK (fun i => M64 (B + 10) i * cT M64 B i j) N = sumK (fun i => M64 (B + 10) i * T i j) N := fun j => sumK_congr N (fun i hi => by rw [cTM i j hi])
          refine v_if_eq K 89 ⟨by omega, by omega⟩ dX4_find_75 (by decide) (fun h75 => ?_) (fun h75 => ?_)
          · have G8 : fdS T MI M64 B N m (e + 1) := fdS_nx G1 (fun _ _ _ x hx hs hp => by
              rcases h72 with ⟨q, -⟩ | ⟨-, j, j1, j2⟩
              · exact absurd q (by omega)
              · rw [cS j] at j2
                have := in_pr hx y2 (pr_sg hp y4) j j1
                exact absurd this (by omega))
            refine v_iinc K 0 (fun q9 => [(6, .int (iI q9)), (5, .int (iI t)), (4, .int (iI (m : Int))), (3, .int (iI (P : Int))), (0, .ref (Q (B + 8))), (1, .ref (Q (B + 2))), (2, .int (iI (N : Int)))]) dX4_find_89 rfl (by decide) (fun _ => rfl) (fun w hw => ?_)
            refine v_goto K 43 dX4_find_92 (by decide) ?_
            obtain rfl : w = ((e + 1 : Nat) : Int) := by omega
            exact ih (e + 1) _ G8 (by omega) (by omega)
          · have hH : ∀ j, j < N → 0 ≤ sumK (fun i => M64 (B + 10) i * T i j) N := by
              rcases h72 with ⟨-, q⟩ | ⟨q, -⟩
              · exact fun j hj => by rw [← cS j]; exact q j hj
              · exact absurd q (by omega)
            have wb := fdS_w h5 G1
            refine v_aload_n K 4 dX4_find_78 rfl rfl ?_
            refine v_cVi K (c_X4_isGreater B hB N G1.2.1 h1 h5 (fun q hq => by have := y1 q hq; omega) wb.2 wb.1 (by rw [y3]; omega)) rfl fc_X4_46 wm_X4_isGreater ws_X4_isGreater (by have := ct_b hB; omega) 4 (mx_k hB).1 (by decide) rfl rfl (by decide) (Nat.le_of_ble_eq_true rfl) dX4_find_79 (fun r79 M79 L79 h79 => ?_)
            obtain ⟨hm79, hl79, h79⟩ := h79
            subst M79 L79
            have r03 : r79 = 0 ∨ r79 = 1 := by rcases h79 with q | q <;> omega
            refine v_if_eq K 89 ⟨by omega, by omega⟩ dX4_find_82 (by decide) (fun h82 => ?_) (fun h82 => ?_)
            · have G8 : fdS T MI M64 B N m (e + 1) := fdS_nx G1 (fun _ _ _ x hx hs hp => by
                rcases h79 with ⟨q, -⟩ | ⟨-, w0, q⟩
                · exact absurd q (by omega)
                · refine ⟨w0, ?_⟩
                  rcases G1.2.2.2.1 with z | ⟨z1, z2, -⟩
                  · exact absurd z w0
                  · rw [z1, y3] at q
                    exact lge_trans z2.2 y2 hx.2 q (lge_eq (pr_sg hp y4)))
              refine v_iinc K 0 (fun q9 => [(6, .int (iI q9)), (5, .int (iI t)), (4, .int (iI (m : Int))), (3, .int (iI (P : Int))), (0, .ref (Q (B + 8))), (1, .ref (Q (B + 2))), (2, .int (iI (N : Int)))]) dX4_find_89 rfl (by decide) (fun _ => rfl) (fun w hw => ?_)
              refine v_goto K 43 dX4_find_92 (by decide) ?_
              obtain rfl : w = ((e + 1 : Nat) : Int) := by omega
              exact ih (e + 1) _ G8 (by omega) (by omega)
            · have hG : M64 (B + 8) 1 = 0 ∨ lxg N (fun i => M64 (B + 10) i * M64 (B + 8) 1 - M64 (B + 9) i * M64 (B + 8) 3) := by
                rcases h79 with ⟨-, q⟩ | ⟨q, -⟩
                · exact q
                · exact absurd q (by omega)
              refine v_aload_n K 4 dX4_find_85 rfl rfl ?_
              refine v_cVv K (c_X4_takeTried B hB N G1.2.1 h1 h5) rfl fc_X4_50 wm_X4_takeTried ws_X4_takeTried (by have := ct_b hB; omega) 4 (mx_k hB).1 (by decide) rfl rfl (by decide) (Nat.le_of_ble_eq_true rfl) dX4_find_86 (fun M86 L86 h86 => ?_)
              obtain ⟨hl86, f86, q86, w86⟩ := h86
              subst L86
              have G8 : fdS T MI M86 B N m (e + 1) := fdS_tk (fun _ => rfl) G1 t64 hH hG f86 q86 w86
              refine v_iinc K 0 (fun q9 => [(6, .int (iI q9)), (5, .int (iI t)), (4, .int (iI (m : Int))), (3, .int (iI (P : Int))), (0, .ref (Q (B + 8))), (1, .ref (Q (B + 2))), (2, .int (iI (N : Int)))]) dX4_find_89 rfl (by decide) (fun _ => rfl) (fun w hw => ?_)
              refine v_goto K 43 dX4_find_92 (by decide) ?_
              obtain rfl : w = ((e + 1 : Nat) : Int) := by omega
              exact ih (e + 1) _ G8 (by omega) (by omega)
set_option maxRecDepth 100000 in
set_option maxHeartbeats 4000000 in
theorem l_X4_find {X : VX} {Q : Nat → Nat} {MI ML : ZM} (K : VK X cX4_find RX4 7 none 4 96 0 0) (B : Nat) (hB : isCt B) (N : Nat) (h1 : 1 ≤ N) (h5 : N ≤ 5) (T : Nat → Nat → Int) (hTM : ∀ i j, i < 5 → MI (B + 3 + i) j = T i j) (hT : ∀ i k, i < N → k < N → -2 ≤ T i k ∧ T i k ≤ 2) (P : Nat) (hP : P = 2 ^ N) (hP2 : P ≤ 32) (Po : ZM → ZM → Prop) (E : VE X 0 0 110 Q (zq Q (zV Po))) (hE : ∀ M, fdS T MI M B N (2 ^ N) 0 → Po M ML) : ∀ (n m : Nat) (M : ZM), fdS T MI M B N m 0 → 1 ≤ m → m ≤ P → P < m + n → V X (0, 0) 110 Q z_rf M ML 25 [(4, .int (iI (m : Int))), (3, .int (iI (P : Int))), (0, .ref (Q (B + 8))), (1, .ref (Q (B + 2))), (2, .int (iI (N : Int)))] [] := by
  intro n
  induction n with
  | zero => intro m M G hm1 hm hn; exact absurd hn (by omega)
  | succ n ih =>
    intro m M G hm1 hm hn
    refine v_iload K 0 dX4_find_25 rfl ?_
    refine v_iload_n K 1 dX4_find_27 rfl rfl ?_
    refine v_icmp_ge K 101 ⟨by omega, by omega⟩ ⟨by omega, by omega⟩ dX4_find_28 (by decide) (fun h28 => ?_) (fun h28 => ?_)
    · obtain e9 : m = P := (by omega)
      rw [e9, hP] at G
      exact v_rv K E dX4_find_101 (hE _ G)
    · have m3 : m < 32 := by omega
      refine v_iload K 0 dX4_find_31 rfl ?_
      refine v_cSi K (c_J6_bitCount_0f7a4 m m3 _ rfl) rfl fc_X4_32 wt_J6_bitCount_0f7a4 rfl (by decide) (Nat.le_of_ble_eq_true rfl) dX4_find_33 (fun r33 M33 L33 h33 => ?_)
      obtain ⟨hm33, hl33, hr33⟩ := h33
      subst M33 L33
      refine v_iconst K dX4_find_36 ?_
      refine v_isub K dX4_find_37 ?_
      refine v_istore K (fun q9 => [(5, .int (iI q9)), (4, .int (iI (m : Int))), (3, .int (iI (P : Int))), (0, .ref (Q (B + 8))), (1, .ref (Q (B + 2))), (2, .int (iI (N : Int)))]) dX4_find_38 (by decide) (fun _ => rfl) (fun t ht => ?_)
      refine v_iconst K dX4_find_40 ?_
      refine v_istore K (fun q9 => [(6, .int (iI q9)), (5, .int (iI t)), (4, .int (iI (m : Int))), (3, .int (iI (P : Int))), (0, .ref (Q (B + 8))), (1, .ref (Q (B + 2))), (2, .int (iI (N : Int)))]) dX4_find_41 (by decide) (fun _ => rfl) (fun e0 he0 => ?_)
      subst he0
      refine l_X4_find_e (MI := MI) (ML := ML) K B hB N h1 h5 T hTM hT P hP hP2 m hm1 (by omega) t (by rw [ht, hr33]) (fun M G => ?_) 33 0 M G (by omega) (by omega)
      refine v_iinc K 2 (fun q9 => [(4, .int (iI q9)), (6, .int (iI (P : Int))), (5, .int (iI t)), (3, .int (iI (P : Int))), (0, .ref (Q (B + 8))), (1, .ref (Q (B + 2))), (2, .int (iI (N : Int)))]) dX4_find_95 rfl (by decide) (fun _ => rfl) (fun w hw => ?_)
      refine v_goto K 25 dX4_find_98 (by decide) ?_
      obtain rfl : w = ((m + 1 : Nat) : Int) := by omega
      refine v_sub K [0, 3, 4, 5, 6] rfl ?_
      exact ih (m + 1) _ (fdS_row G) (by omega) (by omega) (by omega)
set_option maxRecDepth 100000 in
set_option maxHeartbeats 4000000 in
theorem c_X4_find {l : Launch} {D : va_G} {Z : ZC} {Q : Nat → Nat} {MI ML : ZM} (B : Nat) (hB : isCt B) (N : Nat) (h1 : 1 ≤ N) (h5 : N ≤ 5) (hT : ∀ i k, i < N → k < N → -2 ≤ cT MI B i k ∧ cT MI B i k ≤ 2) (ha : ∀ i k, i < N → k < N → cT MI B i k = - cT MI B k i) (N9 : Int) (hN9 : N9 = N) : C_X4_find l D Z Q [.ref (Q (B + 8)), .ref (Q (B + 2)), .int (iI N9)] MI ML (zV fun M L => L = ML ∧ (∀ a b, a < B + 8 ∨ B + 11 < a → M a b = MI a b) ∧ M (B + 8) 5 = N ∧ M (B + 8) 1 = sumK (M (B + 9)) N ∧ mxI (cT MI B) N (M (B + 9)) ∧ ∀ q, q < N → 0 ≤ M (B + 9) q ∧ M (B + 9) q ≤ 10000) := by
  subst hN9
  refine CM.of (by decide +kernel) (Nat.le_of_ble_eq_true rfl) ?_
  intro X K E _ _ _ _
  show V X (0, 0) 110 Q z_rf MI ML 0 [(0, .ref (Q (B + 8))), (1, .ref (Q (B + 2))), (2, .int (iI (N : Int)))] []
  obtain ⟨P, hP, hP2⟩ : ∃ P, P = 2 ^ N ∧ P ≤ 32 := ⟨2 ^ N, rfl, (by rcases (show N = 1 ∨ N = 2 ∨ N = 3 ∨ N = 4 ∨ N = 5 by omega) with e | e | e | e | e <;> subst e <;> decide)⟩
  have hP1 : 1 ≤ P := by rw [hP]; exact Nat.pow_pos (by decide)
  refine v_aload_n K 0 dX4_find_0 rfl rfl ?_
  refine v_iload_n K 2 dX4_find_1 rfl rfl ?_
  refine v_puti K fp_X4_21 (by have := ct_b hB; omega) (mx_k hB).1 rfl dX4_find_2 ?_
  refine v_aload_n K 0 dX4_find_5 rfl rfl ?_
  refine v_iconst K dX4_find_6 ?_
  refine v_puti K fp_X4_25 (by have := ct_b hB; omega) (mx_k hB).1 rfl dX4_find_7 ?_
  refine v_aload_n K 0 dX4_find_10 rfl rfl ?_
  refine v_aload_n K 1 dX4_find_11 rfl rfl ?_
  refine v_cVv K (c_X4_findMinors (MI := z_up (z_up MI (B + 8) 5 N) (B + 8) 1 0) B hB N (by rw [z_up_j (by omega), z_up_s]) h1 h5) rfl fc_X4_28 wm_X4_findMinors ws_X4_findMinors (by have := ct_b hB; omega) 4 (mx_k hB).1 (by decide) rfl rfl (by decide) (Nat.le_of_ble_eq_true rfl) dX4_find_12 (fun M12 L12 h12 => ?_)
  obtain ⟨hl12, k12⟩ := h12
  subst L12
  obtain ⟨M0, hM0⟩ : ∃ M0, M0 = z_up (z_up MI (B + 8) 5 N) (B + 8) 1 0 := ⟨_, rfl⟩
  rw [← hM0] at k12
  have c0 : ∀ i j, i < 5 → cT M0 B i j = cT MI B i j := fun i j hi => by show M0 (B + 3 + i) j = _; rw [hM0, z_up_k (by omega), z_up_k (by omega)]; rfl
  have n12 : M12 (B + 8) 5 = N := by rw [k12.1 _ _ (by omega), hM0, z_up_j (by omega), z_up_s]
  have w12 : M12 (B + 8) 1 = 0 := by rw [k12.1 _ _ (by omega), hM0, z_up_s]
  have f12 : ∀ a b, a < B + 8 ∨ B + 11 < a → M12 a b = MI a b := fun a b q => by rw [k12.1 _ _ (by omega), hM0, z_up_k (by omega), z_up_k (by omega)]
  refine v_iconst K dX4_find_15 ?_
  refine v_aload_n K 0 dX4_find_16 rfl rfl ?_
  refine v_geti K ff_X4_21 (by have := ct_b hB; omega) (mx_k hB).1 rfl dX4_find_17 ?_
  refine v_eqi ((N : Int)) (n12) ?_
  refine v_ishl K ((P : Int)) ((by rw [hP]; exact shl_1 _ (by omega))) dX4_find_20 ?_
  refine v_istore_n K (fun q9 => [(3, .int (iI q9)), (0, .ref (Q (B + 8))), (1, .ref (Q (B + 2))), (2, .int (iI (N : Int)))]) dX4_find_21 rfl (by decide) (fun _ => rfl) (fun p8 hp8 => ?_)
  subst hp8
  refine v_iconst K dX4_find_22 ?_
  refine v_istore K (fun q9 => [(4, .int (iI q9)), (3, .int (iI (P : Int))), (0, .ref (Q (B + 8))), (1, .ref (Q (B + 2))), (2, .int (iI (N : Int)))]) dX4_find_23 (by decide) (fun _ => rfl) (fun m0 hm0 => ?_)
  subst hm0
  refine l_X4_find (MI := MI) K B hB N h1 h5 (cT M0 B) (fun i j hi => (c0 i j hi).symm) (fun i k hi hk => by rw [c0 i k (by omega)]; exact hT i k hi hk) P hP hP2 _ E (fun M G => ?_) 33 1 M12 ⟨f12, n12, mn_T h5 k12, Or.inl w12, ?_⟩ (by omega) hP1 (by omega)
  · have en := fdS_end h1 h5 (fun i j hi hj => by rw [c0 i j (by omega), c0 j i (by omega)]; exact ha i j hi hj) G
    exact ⟨rfl, G.1, G.2.1, en.1, mxI_cg (fun i j hi hj => c0 i j (by omega)) en.2.1, en.2.2⟩
  · intro t u t1 u1 tb tm x hx hs hp
    obtain rfl : t = 0 := by omega
    have := (bts_z 0 (by decide)).mpr rfl
    omega
