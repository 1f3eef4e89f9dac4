theorem shl_1 : ∀ k : Nat, k < 11 → iI 1 <<< (iI (k : Int) &&& 31) = iI ((2 ^ k : Nat) : Int) := by decide +kernel
theorem hom_lb {MI ML L : ZM} {s N : Nat} (h : lbK MI ML L s N (2 * N)) (hc : bts s (2 * N) = N - 1) (h1 : 1 ≤ N) (h5 : N ≤ 5) (y : Nat → Int) (t : Int) : hom L N y t ↔ (sumK y N = t ∧ ∀ q, q < 2 * N → bt1 s q = 1 → con (rT MI) N q y = 0) := by
  obtain ⟨-, l1, l2⟩ := h
  have r0 : sumK (fun i => L 104 (6 * 0 + i) * y i) N = sumK y N := sumK_congr N (fun i hi => by rw [show 6 * 0 + i = i by omega, l1 i (Or.inl hi)]; omega)
  have rq : ∀ q, q < 2 * N → bt1 s q = 1 → sumK (fun i => L 104 (6 * (1 + bts s q) + i) * y i) N = con (rT MI) N q y := by
    intro q hq hb
    simp only [con]
    exact sumK_congr N (fun i hi => by rw [(l2 q hq hb).1 i hi]; exact Int.mul_comm _ _)
  constructor
  · intro H
    refine ⟨?_, fun q hq hb => ?_⟩
    · have a := H 0 (by omega)
      rw [r0, show 6 * 0 + 5 = 5 by rfl, l1 5 (Or.inr rfl)] at a
      omega
    · have b := bts_lt hq hb
      have a := H (1 + bts s q) (by omega)
      rw [rq q hq hb, (l2 q hq hb).2] at a
      omega
  · intro H r hr
    by_cases e : r = 0
    · subst e
      rw [r0, show 6 * 0 + 5 = 5 by rfl, l1 5 (Or.inr rfl), H.1]; omega
    · obtain ⟨q, q1, q2, q3⟩ := bts_hit (s := s) (2 * N) (r - 1) (by omega)
      have e2 : r = 1 + bts s q := by omega
      rw [e2, rq q q1 q2, H.2 q q1 q2, (l2 q q1 q2).2]; omega
theorem lb_bd {MI ML L : ZM} {s N : Nat} (h : lbK MI ML L s N (2 * N)) (hc : bts s (2 * N) = N - 1) (h1 : 1 ≤ N) (h5 : N ≤ 5) (hT : ∀ i k, i < N → k < N → -2 ≤ MI 103 (5 * i + k) ∧ MI 103 (5 * i + k) ≤ 2) : ∀ r, r < N → ∀ i, i < N ∨ i = 5 → -2 ≤ L 104 (6 * r + i) ∧ L 104 (6 * r + i) ≤ 2 := by
  obtain ⟨-, l1, l2⟩ := h
  intro r hr i hi
  by_cases e : r = 0
  · subst e
    rw [show 6 * 0 + i = i by omega, l1 i hi]; omega
  · obtain ⟨q, q1, q2, q3⟩ := bts_hit (s := s) (2 * N) (r - 1) (by omega)
    have e2 : r = 1 + bts s q := by omega
    by_cases a : i < N
    · rw [e2, (l2 q q1 q2).1 i a]
      simp only [ct]
      by_cases b : q < N
      · rw [if_pos b]
        by_cases c : i = q
        · rw [if_pos c]; omega
        · rw [if_neg c]; omega
      · rw [if_neg b]; exact hT i (q - N) a (by omega)
    · obtain rfl : i = 5 := by omega
      rw [e2, (l2 q q1 q2).2]; omega
/-- what a set of bounds leaves, when the reference has solved it -/
theorem cand {MI ML L L2 : ZM} {s N : Nat} (h : lbK MI ML L s N (2 * N)) (hc : bts s (2 * N) = N - 1) (h1 : 1 ≤ N) (h5 : N ≤ 5) (hT : ∀ i k, i < N → k < N → -2 ≤ MI 103 (5 * i + k) ∧ MI 103 (5 * i + k) ≤ 2) (hq : ∀ q, q < N → 0 < L2 106 q ∧ Int.gcd (L2 105 q) (L2 106 q) = 1) (he : ∀ y t, hom L N y t ↔ ∀ q, q < N → L2 106 q * y q = L2 105 q * t) : ∃ (y : Nat → Int), frc MI L2 N y (sumK y N) ∧ (∀ q, q < 2 * N → bt1 s q = 1 → con (rT MI) N q y = 0) ∧ ∀ x, inP (rT MI) N x → (∀ q, q < 2 * N → bt1 s q = 1 → con (rT MI) N q x = 0) → ∀ i, i < N → x i * sumK y N = y i * sumK x N := by
  have so : sole (rT MI) N (fun q => bt1 s q = 1) := by
    intro z z0 zc i hi
    have a := (he z 0).mp ((hom_lb h hc h1 h5 z 0).mpr ⟨z0, zc⟩) i hi
    rw [Int.mul_zero] at a
    rcases Int.mul_eq_zero.mp a with q | q
    · have := (hq i hi).1; omega
    · exact q
  obtain ⟨c1, c2⟩ := corner h1 h5 hc so
  have l1 := lvL_l s N
  have l2 := evL_l s N N
  rw [show N + N = 2 * N by omega, hc] at l2
  have bd := crn_bd (T := rT MI) (N := N) h5 hT (L := lvL s N) (E := evL s N N) (fun k hk => (lvL_m.mp hk).1) (fun k hk => (evL_m.mp hk).1) (by omega) (by omega)
  have sb := sumK_bd (f := crn (rT MI) (lvL s N) (evL s N N)) (B := 10000) N (fun i _ => bd i)
  have fin : ∀ y : Nat → Int, (∀ i, -10000 ≤ y i ∧ y i ≤ 10000) → 0 < sumK y N → (∀ q, q < 2 * N → bt1 s q = 1 → con (rT MI) N q y = 0) → ∃ (y : Nat → Int), frc MI L2 N y (sumK y N) ∧ (∀ q, q < 2 * N → bt1 s q = 1 → con (rT MI) N q y = 0) ∧ ∀ x, inP (rT MI) N x → (∀ q, q < 2 * N → bt1 s q = 1 → con (rT MI) N q x = 0) → ∀ i, i < N → x i * sumK y N = y i * sumK x N := by
    intro y yb y0 yc
    have sy := sumK_bd (f := y) (B := 10000) N (fun i _ => yb i)
    have hy := (he y (sumK y N)).mp ((hom_lb h hc h1 h5 y _).mpr ⟨rfl, yc⟩)
    refine ⟨y, ⟨y0, by omega, fun q hqN => ⟨(hq q hqN).1, (hq q hqN).2, hy q hqN, by have := yb q; omega, by have := yb q; omega⟩, hT⟩, yc, ?_⟩
    intro x hx xc i hi
    have z := so (fun i => sumK y N * x i + (- sumK x N) * y i) (by rw [sumK_lin]; grind) (fun q h2 hb => by rw [con_lin, xc q h2 hb, yc q h2 hb]; omega) i hi
    have z : sumK y N * x i + (- sumK x N) * y i = 0 := z
    grind
  by_cases e : 0 < sumK (crn (rT MI) (lvL s N) (evL s N N)) N
  · exact fin _ bd e c2
  · refine fin (fun i => - crn (rT MI) (lvL s N) (evL s N N) i) (fun i => by have := bd i; show -10000 ≤ - _ ∧ - _ ≤ 10000; omega) (by rw [sumK_neg]; omega) (fun q h2 hb => ?_)
    have a := con_lin (rT MI) N q (-1) 0 (crn (rT MI) (lvL s N) (evL s N N)) (crn (rT MI) (lvL s N) (evL s N N))
    rw [c2 q h2 hb] at a
    rw [show (fun i => - crn (rT MI) (lvL s N) (evL s N N) i) = (fun i => -1 * crn (rT MI) (lvL s N) (evL s N N) i + 0 * crn (rT MI) (lvL s N) (evL s N N) i) by funext i; omega, a]; rfl
def bsx (T : Nat → Nat → Int) (N s : Nat) (z : Nat → Int) (U : Int) : Prop := ((U = sumK z N ∧ inP T N z) ∨ ((∀ q, z q = -1) ∧ U = 1)) ∧ ∀ t, t < s → bts t (2 * N) = N - 1 → sole T N (fun q => bt1 t q = 1) → ∀ x, inP T N x → (∀ q, q < 2 * N → bt1 t q = 1 → con T N q x = 0) → lxg N (fun i => z i * sumK x N - x i * U)
def fmI (MI ML L : ZM) (N s : Nat) : Prop := (∀ c j, c < 104 ∨ 108 < c → L c j = ML c j) ∧ ∃ z U, frb L N z U ∧ bsx (rT MI) N s z U
theorem bsx_vac {T : Nat → Nat → Int} {N s : Nat} {z : Nat → Int} {U : Int} (h : bsx T N s z U) (hv : bts s (2 * N) = N - 1 → sole T N (fun q => bt1 s q = 1) → ∀ x, inP T N x → (∀ q, q < 2 * N → bt1 s q = 1 → con T N q x = 0) → lxg N (fun i => z i * sumK x N - x i * U)) : bsx T N (s + 1) z U := by
  refine ⟨h.1, fun t ht h1 h2 x hx hc => ?_⟩
  by_cases e : t = s
  · subst e; exact hv h1 h2 x hx hc
  · exact h.2 t (by omega) h1 h2 x hx hc
theorem fm_fr {MI ML L L' : ZM} {N s : Nat} (h : fmI MI ML L N s) (hf : ∀ c j, c < 104 ∨ 106 < c → L' c j = L c j) : fmI MI ML L' N s := by
  obtain ⟨h1, z, U, ⟨B0, B⟩, b⟩ := h
  refine ⟨fun c j hc => by rw [hf c j (by omega)]; exact h1 c j hc, z, U, ⟨B0, fun q hq => ?_⟩, b⟩
  rw [hf 107 q (by omega), hf 108 q (by omega)]; exact B q hq
theorem fm_vac {MI ML L : ZM} {N s : Nat} (h : fmI MI ML L N s) (hv : bts s (2 * N) = N - 1 → sole (rT MI) N (fun q => bt1 s q = 1) → ∀ x, inP (rT MI) N x → (∀ q, q < 2 * N → bt1 s q = 1 → con (rT MI) N q x = 0) → False) : fmI MI ML L N (s + 1) := by
  obtain ⟨h1, z, U, B, b⟩ := h
  exact ⟨h1, z, U, B, bsx_vac b (fun a1 a2 x a3 a4 => (hv a1 a2 x a3 a4).elim)⟩
theorem fm_sg {MI ML ML' L L2 : ZM} {N s : Nat} (hl : lbK MI ML' L s N (2 * N)) (hc : bts s (2 * N) = N - 1) (h1 : 1 ≤ N) (h5 : N ≤ 5) (hs : ∃ y : Nat → Int, (∃ i, i < N ∧ y i ≠ 0) ∧ hom L N y 0) (h : fmI MI ML L2 N s) : fmI MI ML L2 N (s + 1) := by
  refine fm_vac h (fun _ so _ _ _ => ?_)
  obtain ⟨y, ⟨i, hi, hy⟩, hh⟩ := hs
  have a := (hom_lb hl hc h1 h5 y 0).mp hh
  exact hy (so y a.1 a.2 i hi)
theorem HS_in {MI : ZM} {N : Nat} {y : Nat → Int} (h : HS MI N y N) (h0 : 0 < sumK y N) : inP (rT MI) N y := by
  refine ⟨fun k hk => ?_, h0⟩
  by_cases e : k < N
  · rw [con_lt _ e]; exact h.1 k e
  · rw [show k = N + (k - N) by omega, con_ge]; exact h.2 (k - N) (by omega)
theorem in_HS {MI : ZM} {N : Nat} {y x : Nat → Int} (hx : inP (rT MI) N x) (h0 : 0 < sumK y N) (he : ∀ i, i < N → x i * sumK y N = y i * sumK x N) : HS MI N y N := by
  have x0 := hx.2
  refine ⟨fun q hq => ?_, fun j hj => ?_⟩
  · have a := hx.1 q (by omega)
    rw [con_lt _ hq] at a
    have b := Int.mul_nonneg a (Int.le_of_lt h0)
    rw [he q hq] at b
    exact Int.le_of_mul_le_mul_right (by rw [Int.zero_mul]; exact b) x0
  · have a := hx.1 (N + j) (by omega)
    rw [con_ge] at a
    have b := Int.mul_nonneg (Int.le_of_lt h0) a
    rw [← sumK_mul, sumK_congr (g := fun i => sumK x N * (y i * rT MI i j)) N (fun i hi => by have := he i hi; grind), sumK_mul] at b
    exact Int.le_of_mul_le_mul_left (by rw [Int.mul_zero]; exact b) x0
theorem bsx_no {T : Nat → Nat → Int} {N s : Nat} {z y : Nat → Int} {U : Int} (b : bsx T N s z U) (y0 : 0 < sumK y N) (hx : ∀ x, inP T N x → (∀ q, q < 2 * N → bt1 s q = 1 → con T N q x = 0) → ∀ i, i < N → x i * sumK y N = y i * sumK x N) (hl : lxg N (fun i => z i * sumK y N - y i * U)) : bsx T N (s + 1) z U := by
  refine bsx_vac b (fun _ _ x hP hc => ?_)
  have e := hx x hP hc
  exact lxg_div y0 (e := fun i => sumK x N * (z i * sumK y N - y i * U)) (fun i hi => by have := e i hi; grind) (lxg_mul (Int.le_of_lt hP.2) hl)
theorem bsx_yes {T : Nat → Nat → Int} {N s : Nat} {z y : Nat → Int} {U : Int} (b : bsx T N s z U) (U0 : 0 < U) (hy : inP T N y) (hx : ∀ x, inP T N x → (∀ q, q < 2 * N → bt1 s q = 1 → con T N q x = 0) → ∀ i, i < N → x i * sumK y N = y i * sumK x N) (hl : lxg N (fun i => y i * U - z i * sumK y N)) : bsx T N (s + 1) y (sumK y N) := by
  refine ⟨Or.inl ⟨rfl, hy⟩, fun t ht h1 h2 x hP hc => ?_⟩
  by_cases e : t = s
  · subst e
    intro i hi _
    have := hx x hP hc i hi
    show 0 ≤ y i * sumK x N - x i * sumK y N
    omega
  · have a := b.2 t (by omega) h1 h2 x hP hc
    have p := lxg_add (f := fun i => U * (y i * sumK x N - x i * sumK y N)) (fun i _ => by grind) (lxg_mul (Int.le_of_lt hP.2) hl) (lxg_mul (Int.le_of_lt hy.2) a)
    exact lxg_div U0 (fun i _ => rfl) p
/-- THE MIX: shares z that hold, before all that hold; as fractions u over b in least terms -/
def mxI (T : Nat → Nat → Int) (N : Nat) (z : Nat → Int) : Prop := inP T N z ∧ ∀ x, inP T N x → lge N z x
def mixR (T : Nat → Nat → Int) (N : Nat) (u b : Nat → Int) : Prop := ∃ z, mxI T N z ∧ ∀ q, q < N → 0 < b q ∧ b q ≤ 50000 ∧ -50000 ≤ u q ∧ u q ≤ 50000 ∧ Int.gcd (u q) (b q) = 1 ∧ b q * z q = u q * sumK z N
theorem bsx_end {T : Nat → Nat → Int} {N : Nat} {z : Nat → Int} {U : Int} (h1 : 1 ≤ N) (ha : ∀ i j, i < N → j < N → T i j = - T j i) (b : bsx T N (2 ^ (2 * N)) z U) : U = sumK z N ∧ mxI T N z := by
  obtain ⟨x, x1, x2, x3⟩ := mix_ex T N (by omega) ha
  have xP : inP T N x := by
    refine ⟨fun k hk => ?_, x2⟩
    by_cases e : k < N
    · rw [con_lt _ e]; exact x1 k e
    · rw [show k = N + (k - N) by omega, con_ge]; exact x3 (k - N) (by omega)
  have all : ∀ y, inP T N y → ∃ w, inP T N w ∧ lge N w y ∧ lxg N (fun i => z i * sumK w N - w i * U) := by
    intro y hy
    obtain ⟨s, w, s1, s2, s3, w1, w2, w3⟩ := mix_set (by omega) hy
    exact ⟨w, w1, w3, b.2 s s1 s2 s3 w w1 w2⟩
  rcases b.1 with ⟨e, zP⟩ | ⟨e, e2⟩
  · refine ⟨e, zP, fun y hy => ?_⟩
    obtain ⟨w, w1, w2, w3⟩ := all y hy
    rw [e] at w3
    exact lge_trans zP.2 w1.2 hy.2 w3 w2
  · obtain ⟨w, w1, -, w3⟩ := all x xP
    have a := w3 0 (by omega) (fun j hj => absurd hj (by omega))
    have c := w1.1 0 (by omega)
    rw [con_lt _ (by omega)] at c
    have d := w1.2
    have a : 0 ≤ z 0 * sumK w N - w 0 * U := a
    rw [e 0, e2] at a
    omega
theorem con_cg {T T' : Nat → Nat → Int} {N : Nat} (h : ∀ i j, i < N → j < N → T i j = T' i j) {k : Nat} (hk : k < 2 * N) (x : Nat → Int) : con T N k x = con T' N k x := by
  simp only [con, ct]
  refine sumK_congr N (fun i hi => ?_)
  by_cases e : k < N
  · rw [if_pos e, if_pos e]
  · rw [if_neg e, if_neg e, h i (k - N) hi (by omega)]
theorem inP_cg {T T' : Nat → Nat → Int} {N : Nat} (h : ∀ i j, i < N → j < N → T i j = T' i j) {x : Nat → Int} (hx : inP T N x) : inP T' N x := ⟨fun k hk => by rw [← con_cg h hk]; exact hx.1 k hk, hx.2⟩
theorem mxI_cg {T T' : Nat → Nat → Int} {N : Nat} (h : ∀ i j, i < N → j < N → T i j = T' i j) {z : Nat → Int} (hz : mxI T N z) : mxI T' N z := ⟨inP_cg h hz.1, fun x hx => hz.2 x (inP_cg (fun i j hi hj => (h i j hi hj).symm) hx)⟩
def fmC (L2 L3 : ZM) (k : Nat) : Prop := (∀ c j, c ≠ 107 → c ≠ 108 → L3 c j = L2 c j) ∧ ∀ q, q < k → L3 107 q = L2 105 q ∧ L3 108 q = L2 106 q
theorem fmC_put {L2 L3 : ZM} {k : Nat} {a b : Int} (h : fmC L2 L3 k) (ha : a = L3 105 k) (hb : b = z_up L3 107 k a 106 k) : fmC L2 (z_up (z_up L3 107 k a) 108 k b) (k + 1) := by
  refine ⟨fun c j h1 h2 => ?_, fun q hq => ?_⟩
  · rw [z_up_k h2, z_up_k h1]; exact h.1 c j h1 h2
  · by_cases e : q = k
    · subst e
      rw [z_up_k (by omega), z_up_s, z_up_s, ha, hb, z_up_k (by omega)]
      exact ⟨h.1 105 q (by omega) (by omega), h.1 106 q (by omega) (by omega)⟩
    · rw [z_up_j e, z_up_j e, z_up_j e, z_up_j e]; exact h.2 q (by omega)
def fmZ (ML L : ZM) (k : Nat) : Prop := (∀ c j, c < 104 ∨ 108 < c → L c j = ML c j) ∧ ∀ q, q < k → L 107 q = -1 ∧ L 108 q = 1
theorem fmZ_put {ML L : ZM} {k : Nat} {a b : Int} (h : fmZ ML L k) (ha : a = -1) (hb : b = 1) : fmZ ML (z_up (z_up L 107 k a) 108 k b) (k + 1) := by
  refine ⟨fun c j hc => ?_, fun q hq => ?_⟩
  · rw [z_up_k (by omega), z_up_k (by omega)]; exact h.1 c j hc
  · by_cases e : q = k
    · subst e
      rw [z_up_k (by omega), z_up_s, z_up_s]; exact ⟨ha, hb⟩
    · rw [z_up_j e, z_up_j e, z_up_j e, z_up_j e]; exact h.2 q (by omega)
theorem fmZ_I {MI ML L : ZM} {N : Nat} (h : fmZ ML L N) : fmI MI ML L N 0 := by
  refine ⟨h.1, fun _ => -1, 1, ⟨by omega, fun q hq => ?_⟩, Or.inr ⟨fun _ => rfl, rfl⟩, fun t ht => absurd ht (by omega)⟩
  rw [(h.2 q hq).1, (h.2 q hq).2]
  exact ⟨by omega, by omega, by omega, by omega, by decide, by show (1 : Int) * (-1) = (-1) * 1; decide⟩
set_option maxRecDepth 100000 in
set_option maxHeartbeats 4000000 in
theorem l_X9_findMix_c {X : VX} {Q : Nat → Nat} {MI ML : ZM} (K : VK X cX9_findMix RX9 3 none 6 139 0 0) (N : Nat) (hN : MI 90 4 = N) (h1 : 1 ≤ N) (h5 : N ≤ 5) (s : Nat) (L2 : ZM) (kk : ∀ (L : ZM) (y : Int), fmC L2 L N → V X (0, 0) 110 Q z_rf MI L 129 [(2, .int (iI y)), (1, .int (iI (s : Int))), (0, .ref (Q 90))] []) : ∀ (n k : Nat) (L : ZM) (y : Int), y = k → fmC L2 L k → k ≤ N → N < k + n → V X (0, 0) 110 Q z_rf MI L 91 [(2, .int (iI y)), (1, .int (iI (s : Int))), (0, .ref (Q 90))] [] := by
  intro n
  induction n with
  | zero => intro k L y hy G hk hn; exact absurd hn (by omega)
  | succ n ih =>
    intro k L y hy G hk hn
    refine v_iload_n K 0 dX9_findMix_91 rfl rfl ?_
    refine v_aload_n K 2 dX9_findMix_92 rfl rfl ?_
    refine v_geti K ff_X9_79 (by decide) rfl rfl dX9_findMix_93 ?_
    refine v_eqi ((N : Int)) (hN) ?_
    refine v_icmp_ge K 129 ⟨by omega, by omega⟩ ⟨by omega, by omega⟩ dX9_findMix_96 (by decide) (fun h96 => ?_) (fun h96 => ?_)
    · obtain rfl : k = N := (by omega)
      exact kk L y G
    · refine v_aload_n K 2 dX9_findMix_99 rfl rfl ?_
      refine v_getr K ff_X9_63 (by decide) rfl rfl rfl dX9_findMix_100 ?_
      refine v_iload_n K 0 dX9_findMix_103 rfl rfl ?_
      refine v_aload_n K 2 dX9_findMix_104 rfl rfl ?_
      refine v_getr K ff_X9_57 (by decide) rfl rfl rfl dX9_findMix_105 ?_
      refine v_iload_n K 0 dX9_findMix_108 rfl rfl ?_
      refine v_lald K (k) (by decide) rfl (by omega) (by show _ < 5; omega) dX9_findMix_109 ?_
      refine v_last K (k) (by decide) rfl (by omega) (by show _ < 5; omega) dX9_findMix_110 ?_
      refine v_aload_n K 2 dX9_findMix_111 rfl rfl ?_
      refine v_getr K ff_X9_66 (by decide) rfl rfl rfl dX9_findMix_112 ?_
      refine v_iload_n K 0 dX9_findMix_115 rfl rfl ?_
      refine v_aload_n K 2 dX9_findMix_116 rfl rfl ?_
      refine v_getr K ff_X9_60 (by decide) rfl rfl rfl dX9_findMix_117 ?_
      refine v_iload_n K 0 dX9_findMix_120 rfl rfl ?_
      refine v_lald K (k) (by decide) rfl (by omega) (by show _ < 5; omega) dX9_findMix_121 ?_
      refine v_last K (k) (by decide) rfl (by omega) (by show _ < 5; omega) dX9_findMix_122 ?_
      refine v_iinc K 0 (fun q9 => [(2, .int (iI q9)), (1, .int (iI (s : Int))), (0, .ref (Q 90))]) dX9_findMix_123 rfl (by decide) (fun _ => rfl) (fun w hw => ?_)
      refine v_goto K 91 dX9_findMix_126 (by decide) ?_
      exact ih (k + 1) _ w (by omega) (fmC_put G rfl rfl) (by omega) (by omega)
set_option maxRecDepth 100000 in
set_option maxHeartbeats 4000000 in
theorem l_X9_findMix_s {X : VX} {Q : Nat → Nat} {MI ML : ZM} (K : VK X cX9_findMix RX9 3 none 6 139 0 0) (N : Nat) (hN : MI 90 4 = N) (h1 : 1 ≤ N) (h5 : N ≤ 5) (hT : ∀ i k, i < N → k < N → -2 ≤ MI 103 (5 * i + k) ∧ MI 103 (5 * i + k) ≤ 2) (P : Nat) (hP : P = 2 ^ (2 * N)) (hP2 : P ≤ 1024) (Po : ZM → ZM → Prop) (E : VE X 0 0 110 Q (zq Q (zV Po))) (hE : ∀ L, fmI MI ML L N (2 ^ (2 * N)) → Po MI L) : ∀ (n s : Nat) (L : ZM), fmI MI ML L N s → s ≤ P → P < s + n → V X (0, 0) 110 Q z_rf MI L 38 [(1, .int (iI (s : Int))), (0, .ref (Q 90))] [] := by
  intro n
  induction n with
  | zero => intro s L G hs hn; exact absurd hn (by omega)
  | succ n ih =>
    intro s L G hs hn
    refine v_iload_n K 0 dX9_findMix_38 rfl rfl ?_
    refine v_iconst K dX9_findMix_39 ?_
    refine v_iconst K dX9_findMix_40 ?_
    refine v_aload_n K 1 dX9_findMix_41 rfl rfl ?_
    refine v_geti K ff_X9_79 (by decide) rfl rfl dX9_findMix_42 ?_
    refine v_eqi ((N : Int)) (hN) ?_
    refine v_imul K dX9_findMix_45 ?_
    refine v_eqi (((2 * N : Nat) : Int)) ((by omega)) ?_
    refine v_ishl K ((P : Int)) ((by rw [hP]; exact shl_1 _ (by omega))) dX9_findMix_46 ?_
    refine v_icmp_ge K 135 ⟨by omega, by omega⟩ ⟨by omega, by omega⟩ dX9_findMix_47 (by decide) (fun h47 => ?_) (fun h47 => ?_)
    · obtain e9 : s = P := (by omega)
      rw [e9, hP] at G
      exact v_rv K E dX9_findMix_135 (hE _ G)
    · have sP : s < 2 ^ (2 * N) := by omega
      have e10 := bts_hi sP 10 (by omega)
      have b10 := bts_b s 10
      refine v_iload_n K 0 dX9_findMix_50 rfl rfl ?_
      refine v_cSi K (c_X9_ones s (by omega) _ rfl) rfl fc_X9_157 wt_X9_ones rfl (by decide) (Nat.le_of_ble_eq_true rfl) dX9_findMix_51 (fun r51 M51 L51 h51 => ?_)
      obtain ⟨hm51, hl51, hr51⟩ := h51
      subst M51 L51
      refine v_aload_n K 1 dX9_findMix_54 rfl rfl ?_
      refine v_geti K ff_X9_79 (by decide) rfl rfl dX9_findMix_55 ?_
      refine v_eqi ((N : Int)) (hN) ?_
      refine v_iconst K dX9_findMix_58 ?_
      refine v_isub K dX9_findMix_59 ?_
      refine v_icmp_ne K 129 ⟨by omega, by omega⟩ ⟨by omega, by omega⟩ dX9_findMix_60 (by decide) (fun h60 => ?_) (fun h60 => ?_)
      · refine v_iinc K 0 (fun q9 => [(1, .int (iI q9)), (0, .ref (Q 90))]) dX9_findMix_129 rfl (by decide) (fun _ => rfl) (fun w hw => ?_)
        refine v_goto K 38 dX9_findMix_132 (by decide) ?_
        obtain rfl : w = ((s + 1 : Nat) : Int) := by omega
        first | exact ih (s + 1) _ G3 (by omega) (by omega) | exact ih (s + 1) _ (fm_vac G (fun q _ _ _ _ => by omega)) (by omega) (by omega)
      · have hc : bts s (2 * N) = N - 1 := by omega
        refine v_aload_n K 1 dX9_findMix_63 rfl rfl ?_
        refine v_iload_n K 0 dX9_findMix_64 rfl rfl ?_
        refine v_cVv K (c_X9_layBounds N hN h1 h5 s (by omega) (by omega) hT _ rfl) rfl fc_X9_160 wm_X9_layBounds ws_X9_layBounds (by decide) 9 rfl (by decide) rfl rfl (by decide) (Nat.le_of_ble_eq_true rfl) dX9_findMix_65 (fun M65 L65 h65 => ?_)
        obtain ⟨hm65, h65⟩ := h65
        subst M65
        have G1 : fmI MI ML L65 N s := fm_fr G (fun c j hc => h65.1 c j (by omega))
        refine v_aload_n K 1 dX9_findMix_68 rfl rfl ?_
        refine v_cVi K (c_X9_solve N hN h1 h5 h65.2.1 (lb_bd h65 hc h1 h5 hT)) rfl fc_X9_163 wm_X9_solve ws_X9_solve (by decide) 9 rfl (by decide) rfl rfl (by decide) (Nat.le_of_ble_eq_true rfl) dX9_findMix_69 (fun r69 M69 L69 h69 => ?_)
        obtain ⟨hm69, h69f, h69⟩ := h69
        subst M69
        have G2 : fmI MI ML L69 N s := fm_fr G1 h69f
        refine v_if_eq K 129 (by rcases h69 with q | q <;> exact ⟨by omega, by omega⟩) dX9_findMix_72 (by decide) (fun h72 => ?_) (fun h72 => ?_)
        · have G3 : fmI MI ML L69 N (s + 1) := by
            rcases h69 with ⟨q, -⟩ | ⟨-, q⟩
            · exact absurd q (by omega)
            · exact fm_sg h65 hc h1 h5 q G2
          refine v_iinc K 0 (fun q9 => [(1, .int (iI q9)), (0, .ref (Q 90))]) dX9_findMix_129 rfl (by decide) (fun _ => rfl) (fun w hw => ?_)
          refine v_goto K 38 dX9_findMix_132 (by decide) ?_
          obtain rfl : w = ((s + 1 : Nat) : Int) := by omega
          first | exact ih (s + 1) _ G3 (by omega) (by omega) | exact ih (s + 1) _ (fm_vac G (fun q _ _ _ _ => by omega)) (by omega) (by omega)
        · obtain ⟨y, F, yc, yx⟩ : ∃ (y : Nat → Int), frc MI L69 N y (sumK y N) ∧ (∀ q, q < 2 * N → bt1 s q = 1 → con (rT MI) N q y = 0) ∧ ∀ x, inP (rT MI) N x → (∀ q, q < 2 * N → bt1 s q = 1 → con (rT MI) N q x = 0) → ∀ i, i < N → x i * sumK y N = y i * sumK x N := by
            rcases h69 with ⟨-, q1, q2⟩ | ⟨q, -⟩
            · exact cand h65 hc h1 h5 hT q1 q2
            · exact absurd q (by omega)
          refine v_aload_n K 1 dX9_findMix_75 rfl rfl ?_
          refine v_cVi K (c_X9_holds N hN h1 h5 y _ F) rfl fc_X9_166 wm_X9_holds ws_X9_holds (by decide) 9 rfl (by decide) rfl rfl (by decide) (Nat.le_of_ble_eq_true rfl) dX9_findMix_76 (fun r76 M76 L76 h76 => ?_)
          obtain ⟨hm76, hl76, h76⟩ := h76
          subst M76 L76
          refine v_if_eq K 129 (by rcases h76 with q | q <;> exact ⟨by omega, by omega⟩) dX9_findMix_79 (by decide) (fun h79 => ?_) (fun h79 => ?_)
          · have G3 : fmI MI ML L69 N (s + 1) := by
              rcases h76 with ⟨q, -⟩ | ⟨-, q⟩
              · exact absurd q (by omega)
              · exact fm_vac G2 (fun _ _ x hx xc => q (in_HS hx F.1 (yx x hx xc)))
            refine v_iinc K 0 (fun q9 => [(1, .int (iI q9)), (0, .ref (Q 90))]) dX9_findMix_129 rfl (by decide) (fun _ => rfl) (fun w hw => ?_)
            refine v_goto K 38 dX9_findMix_132 (by decide) ?_
            obtain rfl : w = ((s + 1 : Nat) : Int) := by omega
            first | exact ih (s + 1) _ G3 (by omega) (by omega) | exact ih (s + 1) _ (fm_vac G (fun q _ _ _ _ => by omega)) (by omega) (by omega)
          · have yP : inP (rT MI) N y := by
              rcases h76 with ⟨-, q⟩ | ⟨q, -⟩
              · exact HS_in q F.1
              · exact absurd q (by omega)
            obtain ⟨g1, z, U, B, b⟩ := G2
            refine v_aload_n K 1 dX9_findMix_82 rfl rfl ?_
            refine v_cVi K (c_X9_isGreater N hN h1 h5 y _ F z U B) rfl fc_X9_169 wm_X9_isGreater ws_X9_isGreater (by decide) 9 rfl (by decide) rfl rfl (by decide) (Nat.le_of_ble_eq_true rfl) dX9_findMix_83 (fun r83 M83 L83 h83 => ?_)
            obtain ⟨hm83, hl83, h83⟩ := h83
            subst M83 L83
            refine v_if_eq K 129 (by rcases h83 with q | q <;> exact ⟨by omega, by omega⟩) dX9_findMix_86 (by decide) (fun h86 => ?_) (fun h86 => ?_)
            · have G3 : fmI MI ML L69 N (s + 1) := by
                rcases h83 with ⟨q, -⟩ | ⟨-, q⟩
                · exact absurd q (by omega)
                · exact ⟨g1, z, U, B, bsx_no b F.1 yx q⟩
              refine v_iinc K 0 (fun q9 => [(1, .int (iI q9)), (0, .ref (Q 90))]) dX9_findMix_129 rfl (by decide) (fun _ => rfl) (fun w hw => ?_)
              refine v_goto K 38 dX9_findMix_132 (by decide) ?_
              obtain rfl : w = ((s + 1 : Nat) : Int) := by omega
              first | exact ih (s + 1) _ G3 (by omega) (by omega) | exact ih (s + 1) _ (fm_vac G (fun q _ _ _ _ => by omega)) (by omega) (by omega)
            · have b2 : bsx (rT MI) N (s + 1) y (sumK y N) := by
                rcases h83 with ⟨-, q⟩ | ⟨q, -⟩
                · exact bsx_yes b B.1 yP yx q
                · exact absurd q (by omega)
              refine v_iconst K dX9_findMix_89 ?_
              refine v_istore_n K (fun q9 => [(2, .int (iI q9)), (1, .int (iI (s : Int))), (0, .ref (Q 90))]) dX9_findMix_90 rfl (by decide) (fun _ => rfl) (fun y0 hy0 => ?_)
              refine l_X9_findMix_c (ML := ML) K N hN h1 h5 s L69 (fun L y8 C => ?_) 6 0 L69 y0 hy0 ⟨fun _ _ _ _ => rfl, fun q hq => absurd hq (by omega)⟩ (by omega) (by omega)
              refine v_iinc K 1 (fun q9 => [(1, .int (iI q9)), (2, .int (iI y8)), (0, .ref (Q 90))]) dX9_findMix_129 rfl (by decide) (fun _ => rfl) (fun w hw => ?_)
              refine v_goto K 38 dX9_findMix_132 (by decide) ?_
              obtain rfl : w = ((s + 1 : Nat) : Int) := by omega
              refine v_sub K [0, 2] rfl ?_
              exact ih (s + 1) _ ⟨fun c j hc => by rw [C.1 c j (by omega) (by omega)]; exact g1 c j hc, y, sumK y N, ⟨F.1, fun q hq => by have f := F.2.2.1 q hq; have g := frc_q F hq; rw [(C.2 q hq).1, (C.2 q hq).2]; exact ⟨f.1, g.1, g.2.1, g.2.2.1, f.2.1, f.2.2.1⟩⟩, b2⟩ (by omega) (by omega)
set_option maxRecDepth 100000 in
set_option maxHeartbeats 4000000 in
theorem l_X9_findMix_a {X : VX} {Q : Nat → Nat} {MI ML : ZM} (K : VK X cX9_findMix RX9 3 none 6 139 0 0) (N : Nat) (hN : MI 90 4 = N) (h1 : 1 ≤ N) (h5 : N ≤ 5) (kk : ∀ (L : ZM) (y : Int), fmZ ML L N → V X (0, 0) 110 Q z_rf MI L 36 [(1, .int (iI y)), (0, .ref (Q 90))] []) : ∀ (n k : Nat) (L : ZM) (y : Int), y = k → fmZ ML L k → k ≤ N → N < k + n → V X (0, 0) 110 Q z_rf MI L 6 [(1, .int (iI y)), (0, .ref (Q 90))] [] := by
  intro n
  induction n with
  | zero => intro k L y hy G hk hn; exact absurd hn (by omega)
  | succ n ih =>
    intro k L y hy G hk hn
    refine v_iload_n K 0 dX9_findMix_6 rfl rfl ?_
    refine v_aload_n K 1 dX9_findMix_7 rfl rfl ?_
    refine v_geti K ff_X9_79 (by decide) rfl rfl dX9_findMix_8 ?_
    refine v_eqi ((N : Int)) (hN) ?_
    refine v_icmp_ge K 36 ⟨by omega, by omega⟩ ⟨by omega, by omega⟩ dX9_findMix_11 (by decide) (fun h11 => ?_) (fun h11 => ?_)
    · obtain rfl : k = N := (by omega)
      exact kk L y G
    · refine v_aload_n K 1 dX9_findMix_14 rfl rfl ?_
      refine v_getr K ff_X9_63 (by decide) rfl rfl rfl dX9_findMix_15 ?_
      refine v_iload_n K 0 dX9_findMix_18 rfl rfl ?_
      refine v_ldc2 K (-1) ck_X9_155 rfl dX9_findMix_19 ?_
      refine v_last K (k) (by decide) rfl (by omega) (by show _ < 5; omega) dX9_findMix_22 ?_
      refine v_aload_n K 1 dX9_findMix_23 rfl rfl ?_
      refine v_getr K ff_X9_66 (by decide) rfl rfl rfl dX9_findMix_24 ?_
      refine v_iload_n K 0 dX9_findMix_27 rfl rfl ?_
      refine v_lconst K 1 dX9_findMix_28 rfl ?_
      refine v_last K (k) (by decide) rfl (by omega) (by show _ < 5; omega) dX9_findMix_29 ?_
      refine v_iinc K 0 (fun q9 => [(1, .int (iI q9)), (0, .ref (Q 90))]) dX9_findMix_30 rfl (by decide) (fun _ => rfl) (fun w hw => ?_)
      refine v_goto K 6 dX9_findMix_33 (by decide) ?_
      exact ih (k + 1) _ w (by omega) (fmZ_put G rfl rfl) (by omega) (by omega)
theorem mTab_a (MI : ZM) (i j : Nat) : mTab MI i j = - mTab MI j i := by unfold mTab; omega
theorem fm_end {MI M ML L : ZM} {N : Nat} (h1 : 1 ≤ N) (hM : ∀ i j, i < N → j < N → M 103 (5 * i + j) = mTab MI i j) (h : fmI M ML L N (2 ^ (2 * N))) : mixR (mTab MI) N (L 107) (L 108) := by
  obtain ⟨-, z, U, B, b⟩ := h
  have e := bsx_end h1 (fun i j hi hj => by show M 103 _ = - M 103 _; rw [hM i j hi hj, hM j i hj hi]; exact mTab_a MI i j) b
  refine ⟨z, mxI_cg (fun i j hi hj => hM i j hi hj) e.2, fun q hq => ?_⟩
  rw [← e.1]; exact B.2 q hq
set_option maxRecDepth 100000 in
set_option maxHeartbeats 4000000 in
theorem c_X9_findMix {l : Launch} {D : va_G} {Z : ZC} {Q : Nat → Nat} {MI ML : ZM} (hM : mOk MI) (N : Nat) (hN : MI 90 4 = N) (h1 : 1 ≤ N) (h5 : N ≤ 5) : C_X9_findMix l D Z Q [.ref (Q 90)] MI ML (zV fun M L => scT MI M ∧ (∀ i j, i < N → j < N → M 103 (5 * i + j) = mTab MI i j) ∧ mixR (mTab MI) N (L 107) (L 108)) := by
  have o1 := h1
  refine CM.of (by decide +kernel) (Nat.le_of_ble_eq_true rfl) ?_
  intro X K E _ _ _ _
  show V X (0, 0) 110 Q z_rf MI ML 0 [(0, .ref (Q 90))] []
  refine v_aload_n K 0 dX9_findMix_0 rfl rfl ?_
  refine v_cVv K (c_X9_layTables hM) rfl fc_X9_125 wm_X9_layTables ws_X9_layTables (by decide) 9 rfl (by decide) rfl rfl (by decide) (Nat.le_of_ble_eq_true rfl) dX9_findMix_1 (fun M1 L1 h1 => ?_)
  obtain ⟨hl1, h1t⟩ := h1
  subst L1
  have n4 : M1 90 4 = N := by rw [h1t.1 90 4 (by omega) (by decide)]; exact hN
  have tb : ∀ i j, i < N → j < N → M1 103 (5 * i + j) = mTab MI i j := fun i j hi hj => h1t.2.1 i j (by omega) (by omega)
  have tb2 : ∀ i k, i < N → k < N → -2 ≤ M1 103 (5 * i + k) ∧ M1 103 (5 * i + k) ≤ 2 := fun i k hi hk => by rw [tb i k hi hk]; exact mTab_b MI i k
  refine v_iconst K dX9_findMix_4 ?_
  refine v_istore_n K (fun q9 => [(1, .int (iI q9)), (0, .ref (Q 90))]) dX9_findMix_5 rfl (by decide) (fun _ => rfl) (fun y hy => ?_)
  refine l_X9_findMix_a (MI := M1) K N n4 o1 h5 (fun L y G => ?_) 6 0 ML y hy ⟨fun _ _ _ => rfl, fun q hq => absurd hq (by omega)⟩ (by omega) (by omega)
  refine v_iconst K dX9_findMix_36 ?_
  refine v_istore_n K (fun q9 => [(1, .int (iI q9)), (0, .ref (Q 90))]) dX9_findMix_37 rfl (by decide) (fun _ => rfl) (fun s0 hs0 => ?_)
  subst hs0
  exact l_X9_findMix_s (MI := M1) K N n4 o1 h5 tb2 (2 ^ (2 * N)) rfl (by rcases (show N = 1 ∨ N = 2 ∨ N = 3 ∨ N = 4 ∨ N = 5 by omega) with e | e | e | e | e <;> subst e <;> decide) _ E (fun L q => ⟨h1t.1, tb, fm_end o1 tb q⟩) (2 ^ (2 * N) + 1) 0 L (fmZ_I G) (Nat.zero_le _) (by omega)
