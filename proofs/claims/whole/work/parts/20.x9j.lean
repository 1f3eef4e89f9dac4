theorem lJ_N (n : Nat) : lJ (n : Int) = lN n := Int64.ofInt_eq_ofNat
theorem iI_N (n : Nat) : iI (n : Int) = nI n := Int32.ofInt_eq_ofNat
theorem lJ_divx {a g k : Int} (h : a = g * k) (ha : rl a) (hg : rl g) (h0 : g ≠ 0) : lJ a / lJ g = lJ k := by
  rw [← Int64.toInt_inj, Int64.toInt_div, lJ_T ha, lJ_T hg, h, Int.mul_tdiv_cancel_left _ h0]
  exact (Int64.toInt_ofInt (n := k)).symm
theorem lJ_0 : (0 : Int64) = lJ 0 := rfl
theorem lJ_ne {a : Int} (ha : rl a) (h : a ≠ 0) : ¬ lJ a = 0 := by
  rw [lJ_0, lJ_eq ha ⟨by decide, by decide⟩]; exact h
theorem lJ_rem {a b : Nat} (ha : a < 9223372036854775808) (h0 : 0 < b) (hb : b < 9223372036854775808) : lJ (a : Int) - lJ (a : Int) / lJ (b : Int) * lJ (b : Int) = lJ ((a % b : Nat) : Int) := by
  rw [lJ_N, lJ_N, lJ_N]
  exact pk_lRem ha h0 hb
theorem rl9 {z : Int} (h0 : -4611686018427387904 ≤ z) (h1 : z ≤ 4611686018427387904) : rl z := ⟨by omega, by omega⟩
set_option maxRecDepth 100000 in
set_option maxHeartbeats 4000000 in
theorem l_X9_divisor {X : VX} {Q : Nat → Nat} {MI ML : ZM} (K : VK X cX9_divisor RX9 10 (some .long) 0 0 0 0) (a b : Int) (E : VE X 0 0 110 Q (zq Q (zL fun r M L => M = MI ∧ L = ML ∧ r = ((Int.gcd a b : Nat) : Int)))) : ∀ (n x y : Nat), y < n → x ≤ 4611686018427387904 → y ≤ 4611686018427387904 → Nat.gcd x y = Int.gcd a b → V X (0, 0) 110 Q z_rf MI ML 28 [(6, .long (lJ (y : Int))), (4, .long (lJ (x : Int))), (0, .long (lJ a)), (2, .long (lJ b))] [] := by
  intro n
  induction n with
  | zero => intro x y hn; exact absurd hn (by omega)
  | succ n ih =>
    intro x y hn hx hy hg
    refine v_lload K 0 dX9_divisor_28 rfl ?_
    refine v_lconst K 0 dX9_divisor_30 rfl ?_
    refine v_lcmp_eq K 53 ⟨by omega, by omega⟩ ⟨by omega, by omega⟩ dX9_divisor_31 dX9_divisor_32 (by decide) (fun h31 => ?_) (fun h31 => ?_)
    · obtain rfl : y = 0 := by omega
      rw [Nat.gcd_zero_right] at hg
      refine v_lload K 1 dX9_divisor_53 rfl ?_
      exact v_rl K E dX9_divisor_55 ⟨rfl, rfl, by rw [hg]⟩
    · have y0 : 0 < y := by omega
      refine v_lload K 1 dX9_divisor_35 rfl ?_
      refine v_lload K 0 dX9_divisor_37 rfl ?_
      refine v_lrem K (((x % y : Nat) : Int)) (lJ_ne ⟨by omega, by omega⟩ (by omega)) (lJ_rem (by omega) y0 (by omega)) dX9_divisor_39 ?_
      refine v_lstore K (fun q9 => [(8, .long (lJ q9)), (6, .long (lJ (y : Int))), (4, .long (lJ (x : Int))), (0, .long (lJ a)), (2, .long (lJ b))]) dX9_divisor_40 (by decide) (fun _ => rfl) (fun z8 hz8 => ?_)
      refine v_lload K 1 dX9_divisor_42 rfl ?_
      refine v_lstore K (fun q9 => [(4, .long (lJ q9)), (8, .long (lJ z8)), (6, .long (lJ (y : Int))), (0, .long (lJ a)), (2, .long (lJ b))]) dX9_divisor_44 (by decide) (fun _ => rfl) (fun x2 hx2 => ?_)
      refine v_lload K 1 dX9_divisor_46 rfl ?_
      refine v_lstore K (fun q9 => [(6, .long (lJ q9)), (4, .long (lJ x2)), (8, .long (lJ z8)), (0, .long (lJ a)), (2, .long (lJ b))]) dX9_divisor_48 (by decide) (fun _ => rfl) (fun y2 hy2 => ?_)
      refine v_goto K 28 dX9_divisor_50 (by decide) ?_
      subst hx2
      have em : x % y < y := Nat.mod_lt _ y0
      obtain rfl : y2 = ((x % y : Nat) : Int) := by rw [hy2, hz8]
      refine v_sub K [0, 1, 3, 4] rfl ?_
      exact ih y (x % y) (by omega) hy (by omega) (by rw [← hg, Nat.gcd_comm y, ← Nat.gcd_rec, Nat.gcd_comm])
set_option maxRecDepth 100000 in
set_option maxHeartbeats 4000000 in
theorem c_X9_divisor {l : Launch} {D : va_G} {Z : ZC} {Q : Nat → Nat} {MI ML : ZM} (a b : Int) (ha0 : -4611686018427387904 ≤ a) (ha1 : a ≤ 4611686018427387904) (hb0 : -4611686018427387904 ≤ b) (hb1 : b ≤ 4611686018427387904) : C_X9_divisor l D Z Q [.long (lJ a), .long (lJ b)] MI ML (zL fun r M L => M = MI ∧ L = ML ∧ r = ((Int.gcd a b : Nat) : Int)) := by
  refine CM.of (by decide +kernel) (Nat.le_of_ble_eq_true rfl) ?_
  intro X K E _ _ _ _
  show V X (0, 0) 110 Q z_rf MI ML 0 [(0, .long (lJ a)), (2, .long (lJ b))] []
  refine v_lload_n K 0 dX9_divisor_0 rfl rfl ?_
  refine v_lconst K 0 dX9_divisor_1 rfl ?_
  refine v_lcmp_ge K 11 ⟨by omega, by omega⟩ ⟨by omega, by omega⟩ dX9_divisor_2 dX9_divisor_3 (by decide) (fun h2 => ?_) (fun h2 => ?_)
  · refine v_lload_n K 0 dX9_divisor_11 rfl rfl ?_
    refine v_lstore K (fun q9 => [(4, .long (lJ q9)), (0, .long (lJ a)), (2, .long (lJ b))]) dX9_divisor_12 (by decide) (fun _ => rfl) (fun x hx => ?_)
    refine v_lload_n K 2 dX9_divisor_14 rfl rfl ?_
    refine v_lconst K 0 dX9_divisor_15 rfl ?_
    refine v_lcmp_ge K 25 ⟨by omega, by omega⟩ ⟨by omega, by omega⟩ dX9_divisor_16 dX9_divisor_17 (by decide) (fun h16 => ?_) (fun h16 => ?_)
    · refine v_lload_n K 2 dX9_divisor_25 rfl rfl ?_
      refine v_lstore K (fun q9 => [(6, .long (lJ q9)), (4, .long (lJ x)), (0, .long (lJ a)), (2, .long (lJ b))]) dX9_divisor_26 (by decide) (fun _ => rfl) (fun y hy => ?_)
      obtain rfl : x = ((a.natAbs : Nat) : Int) := by omega
      obtain rfl : y = ((b.natAbs : Nat) : Int) := by omega
      exact l_X9_divisor K a b E (b.natAbs + 1) a.natAbs b.natAbs (by omega) (by omega) (by omega) rfl
    · refine v_lload_n K 2 dX9_divisor_20 rfl rfl ?_
      refine v_lneg K dX9_divisor_21 ?_
      refine v_goto K 26 dX9_divisor_22 (by decide) ?_
      refine v_lstore K (fun q9 => [(6, .long (lJ q9)), (4, .long (lJ x)), (0, .long (lJ a)), (2, .long (lJ b))]) dX9_divisor_26 (by decide) (fun _ => rfl) (fun y hy => ?_)
      obtain rfl : x = ((a.natAbs : Nat) : Int) := by omega
      obtain rfl : y = ((b.natAbs : Nat) : Int) := by omega
      exact l_X9_divisor K a b E (b.natAbs + 1) a.natAbs b.natAbs (by omega) (by omega) (by omega) rfl
  · refine v_lload_n K 0 dX9_divisor_6 rfl rfl ?_
    refine v_lneg K dX9_divisor_7 ?_
    refine v_goto K 12 dX9_divisor_8 (by decide) ?_
    refine v_lstore K (fun q9 => [(4, .long (lJ q9)), (0, .long (lJ a)), (2, .long (lJ b))]) dX9_divisor_12 (by decide) (fun _ => rfl) (fun x hx => ?_)
    refine v_lload_n K 2 dX9_divisor_14 rfl rfl ?_
    refine v_lconst K 0 dX9_divisor_15 rfl ?_
    refine v_lcmp_ge K 25 ⟨by omega, by omega⟩ ⟨by omega, by omega⟩ dX9_divisor_16 dX9_divisor_17 (by decide) (fun h16 => ?_) (fun h16 => ?_)
    · refine v_lload_n K 2 dX9_divisor_25 rfl rfl ?_
      refine v_lstore K (fun q9 => [(6, .long (lJ q9)), (4, .long (lJ x)), (0, .long (lJ a)), (2, .long (lJ b))]) dX9_divisor_26 (by decide) (fun _ => rfl) (fun y hy => ?_)
      obtain rfl : x = ((a.natAbs : Nat) : Int) := by omega
      obtain rfl : y = ((b.natAbs : Nat) : Int) := by omega
      exact l_X9_divisor K a b E (b.natAbs + 1) a.natAbs b.natAbs (by omega) (by omega) (by omega) rfl
    · refine v_lload_n K 2 dX9_divisor_20 rfl rfl ?_
      refine v_lneg K dX9_divisor_21 ?_
      refine v_goto K 26 dX9_divisor_22 (by decide) ?_
      refine v_lstore K (fun q9 => [(6, .long (lJ q9)), (4, .long (lJ x)), (0, .long (lJ a)), (2, .long (lJ b))]) dX9_divisor_26 (by decide) (fun _ => rfl) (fun y hy => ?_)
      obtain rfl : x = ((a.natAbs : Nat) : Int) := by omega
      obtain rfl : y = ((b.natAbs : Nat) : Int) := by omega
      exact l_X9_divisor K a b E (b.natAbs + 1) a.natAbs b.natAbs (by omega) (by omega) (by omega) rfl
theorem sh_l : ∀ n, n < 32 → ((nI n &&& 31).toBitVec.smod 32).toNat = n := by decide +kernel
theorem bit_shr {m k : Nat} (hm : m < 2147483648) (hk : k < 32) : iI (m : Int) >>> (iI (k : Int) &&& 31) = iI ((m / 2 ^ k : Nat) : Int) := by
  rw [iI_N, iI_N, iI_N]
  exact pk_shrN hm _ k (sh_l k hk)
theorem bit_and {m : Nat} (hm : m < 2147483648) : iI (m : Int) &&& iI 1 = iI ((m % 2 : Nat) : Int) := by
  rw [iI_N, iI_N]
  exact pk_andN (by omega) 1 (by decide)
/-- the bit k of m -/
def bt1 (m k : Nat) : Nat := m / 2 ^ k % 2
def bts (m : Nat) : Nat → Nat
  | 0 => 0
  | k + 1 => bts m k + bt1 m k
theorem bt1_b (m k : Nat) : bt1 m k < 2 := Nat.mod_lt _ (by decide)
theorem bts_b (m : Nat) : ∀ k, bts m k ≤ k := by
  intro k
  induction k with
  | zero => exact Nat.le_refl _
  | succ k ih => have := bt1_b m k; simp only [bts]; omega
set_option maxRecDepth 100000 in
set_option maxHeartbeats 4000000 in
theorem l_X9_ones {X : VX} {Q : Nat → Nat} {MI ML : ZM} (K : VK X cX9_ones RX9 3 (some .int) 0 0 0 0) (m : Nat) (hm : m < 2147483648) (E : VE X 0 0 110 Q (zq Q (zI fun r M L => M = MI ∧ L = ML ∧ r = (bts m 10 : Nat)))) : ∀ (n k : Nat) (x : Int), x = (bts m k : Nat) → k ≤ 10 → 10 < k + n → V X (0, 0) 110 Q z_rf MI ML 4 [(2, .int (iI (k : Int))), (1, .int (iI x)), (0, .int (iI (m : Int)))] [] := by
  intro n
  induction n with
  | zero => intro k x hx hk hn; exact absurd hn (by omega)
  | succ n ih =>
    intro k x hx hk hn
    refine v_iload_n K 0 dX9_ones_4 rfl rfl ?_
    refine v_bipush K dX9_ones_5 (by decide) ?_
    refine v_icmp_ge K 24 ⟨by omega, by omega⟩ ⟨by omega, by omega⟩ dX9_ones_7 (by decide) (fun h7 => ?_) (fun h7 => ?_)
    · obtain rfl : k = 10 := by omega
      refine v_iload_n K 1 dX9_ones_24 rfl rfl ?_
      exact v_ri K E dX9_ones_25 ⟨rfl, rfl, hx⟩
    · have hle : m / 2 ^ k ≤ m := Nat.div_le_self _ _
      refine v_iload_n K 1 dX9_ones_10 rfl rfl ?_
      refine v_iload_n K 2 dX9_ones_11 rfl rfl ?_
      refine v_iload_n K 0 dX9_ones_12 rfl rfl ?_
      refine v_ishr K (((m / 2 ^ k : Nat) : Int)) (bit_shr hm (by omega)) dX9_ones_13 ?_
      refine v_iconst K dX9_ones_14 ?_
      refine v_iand K (((bt1 m k : Nat) : Int)) (bit_and (by omega)) dX9_ones_15 ?_
      refine v_iadd K dX9_ones_16 ?_
      refine v_istore_n K (fun q9 => [(1, .int (iI q9)), (2, .int (iI (k : Int))), (0, .int (iI (m : Int)))]) dX9_ones_17 rfl (by decide) (fun _ => rfl) (fun v hv => ?_)
      refine v_iinc K 1 (fun q9 => [(2, .int (iI q9)), (1, .int (iI v)), (0, .int (iI (m : Int)))]) dX9_ones_18 rfl (by decide) (fun _ => rfl) (fun w hw => ?_)
      refine v_goto K 4 dX9_ones_21 (by decide) ?_
      obtain rfl : w = ((k + 1 : Nat) : Int) := by omega
      exact ih (k + 1) v (by rw [hv, hx]; simp [bts]) (by omega) (by omega)
set_option maxRecDepth 100000 in
set_option maxHeartbeats 4000000 in
theorem c_X9_ones {l : Launch} {D : va_G} {Z : ZC} {Q : Nat → Nat} {MI ML : ZM} (m : Nat) (hm : m < 2147483648) (m9 : Int) (hm9 : m9 = m) : C_X9_ones l D Z Q [.int (iI m9)] MI ML (zI fun r M L => M = MI ∧ L = ML ∧ r = (bts m 10 : Nat)) := by
  subst hm9
  refine CM.of (by decide +kernel) (Nat.le_of_ble_eq_true rfl) ?_
  intro X K E _ _ _ _
  show V X (0, 0) 110 Q z_rf MI ML 0 [(0, .int (iI (m : Int)))] []
  refine v_iconst K dX9_ones_0 ?_
  refine v_istore_n K (fun q9 => [(1, .int (iI q9)), (0, .int (iI (m : Int)))]) dX9_ones_1 rfl (by decide) (fun _ => rfl) (fun x hx => ?_)
  refine v_iconst K dX9_ones_2 ?_
  refine v_istore_n K (fun q9 => [(2, .int (iI q9)), (1, .int (iI x)), (0, .int (iI (m : Int)))]) dX9_ones_3 rfl (by decide) (fun _ => rfl) (fun y hy => ?_)
  subst hy
  exact l_X9_ones K m hm E 11 0 x (by rw [hx]; rfl) (by omega) (by omega)
/-- rows a and b exchanged, the first k places -/
def swK (L : ZM) (a b k : Nat) : ZM := fun c j => if c = 104 ∧ 6 * a ≤ j ∧ j < 6 * a + k then L 104 (6 * b + (j - 6 * a)) else if c = 104 ∧ 6 * b ≤ j ∧ j < 6 * b + k then L 104 (6 * a + (j - 6 * b)) else L c j
theorem swK_0 (L : ZM) (a b : Nat) : swK L a b 0 = L := by
  funext c j
  simp only [swK]
  rw [if_neg (by omega), if_neg (by omega)]
theorem swK_s {L : ZM} {a b k : Nat} (hk : k < 6) : z_up (z_up (swK L a b k) 104 (6 * a + k) (swK L a b k 104 (6 * b + k))) 104 (6 * b + k) (swK L a b k 104 (6 * a + k)) = swK L a b (k + 1) := by
  have ea : swK L a b k 104 (6 * a + k) = L 104 (6 * a + k) := by
    simp only [swK]
    by_cases e : a = b
    · subst e; rw [if_neg (by omega), if_neg (by omega)]
    · rw [if_neg (by omega), if_neg (by omega)]
  have eb : swK L a b k 104 (6 * b + k) = L 104 (6 * b + k) := by
    simp only [swK]
    by_cases e : a = b
    · subst e; rw [if_neg (by omega), if_neg (by omega)]
    · rw [if_neg (by omega), if_neg (by omega)]
  rw [ea, eb]
  funext c j
  simp only [z_up, swK]
  by_cases e : a = b
  · subst e
    by_cases h1 : c = 104 ∧ j = 6 * a + k
    · obtain ⟨rfl, rfl⟩ := h1
      rw [if_pos ⟨rfl, rfl⟩, if_pos (by omega)]; congr 1; omega
    · rw [if_neg h1, if_neg h1]
      by_cases h2 : c = 104 ∧ 6 * a ≤ j ∧ j < 6 * a + k
      · rw [if_pos h2, if_pos (by omega)]
      · rw [if_neg h2, if_neg h2, if_neg (by omega), if_neg (by omega)]
  · by_cases h1 : c = 104 ∧ j = 6 * b + k
    · obtain ⟨rfl, rfl⟩ := h1
      rw [if_pos ⟨rfl, rfl⟩, if_neg (by omega), if_pos (by omega)]; congr 1; omega
    · rw [if_neg h1]
      by_cases h2 : c = 104 ∧ j = 6 * a + k
      · obtain ⟨rfl, rfl⟩ := h2
        rw [if_pos ⟨rfl, rfl⟩, if_pos (by omega)]; congr 1; omega
      · rw [if_neg h2]
        by_cases h3 : c = 104 ∧ 6 * a ≤ j ∧ j < 6 * a + k
        · rw [if_pos h3, if_pos (by omega)]
        · rw [if_neg h3]
          by_cases h4 : c = 104 ∧ 6 * b ≤ j ∧ j < 6 * b + k
          · rw [if_pos h4, if_neg (by omega), if_pos (by omega)]
          · rw [if_neg h4, if_neg (by omega), if_neg (by omega)]
theorem v_eqL {X : VX} {cs : Nat × Nat} {n : Nat} {Q : Nat → Nat} {MR : ZR} {MI ML : ZM} {pc : Nat} {lv : List (Nat × Value)} {st : List Value} {L : ZM} (h : ML = L) (k : V X cs n Q MR MI L pc lv st) : V X cs n Q MR MI ML pc lv st := h ▸ k
set_option maxRecDepth 100000 in
set_option maxHeartbeats 4000000 in
theorem l_X9_changeRows {X : VX} {Q : Nat → Nat} {MI ML : ZM} (K : VK X cX9_changeRows RX9 6 none 0 0 0 0) (a b : Nat) (ha : a < 5) (hb : b < 5) (E : VE X 0 0 110 Q (zq Q (zV fun M L => M = MI ∧ L = swK ML a b 6))) : ∀ (n k : Nat), k ≤ 6 → 6 < k + n → V X (0, 0) 110 Q z_rf MI (swK ML a b k) 2 [(3, .int (iI (k : Int))), (0, .ref (Q 90)), (1, .int (iI (a : Int))), (2, .int (iI (b : Int)))] [] := by
  intro n
  induction n with
  | zero => intro k hk hn; exact absurd hn (by omega)
  | succ n ih =>
    intro k hk hn
    refine v_iload_n K 0 dX9_changeRows_2 rfl rfl ?_
    refine v_bipush K dX9_changeRows_3 (by decide) ?_
    refine v_icmp_ge K 62 ⟨by omega, by omega⟩ ⟨by omega, by omega⟩ dX9_changeRows_5 (by decide) (fun h5 => ?_) (fun h5 => ?_)
    · obtain rfl : k = 6 := by omega
      exact v_rv K E dX9_changeRows_62 ⟨rfl, rfl⟩
    · refine v_aload_n K 1 dX9_changeRows_8 rfl rfl ?_
      refine v_getr K ff_X9_53 (by decide) rfl rfl rfl dX9_changeRows_9 ?_
      refine v_bipush K dX9_changeRows_12 (by decide) ?_
      refine v_iload_n K 2 dX9_changeRows_14 rfl rfl ?_
      refine v_imul K dX9_changeRows_15 ?_
      refine v_iload_n K 0 dX9_changeRows_16 rfl rfl ?_
      refine v_iadd K dX9_changeRows_17 ?_
      refine v_lald K (6 * a + k) (by decide) rfl (by omega) (by show _ < 30; omega) dX9_changeRows_18 ?_
      refine v_lstore K (fun q9 => [(4, .long (lJ q9)), (3, .int (iI (k : Int))), (0, .ref (Q 90)), (1, .int (iI (a : Int))), (2, .int (iI (b : Int)))]) dX9_changeRows_19 (by decide) (fun _ => rfl) (fun t ht => ?_)
      refine v_aload_n K 2 dX9_changeRows_21 rfl rfl ?_
      refine v_getr K ff_X9_53 (by decide) rfl rfl rfl dX9_changeRows_22 ?_
      refine v_bipush K dX9_changeRows_25 (by decide) ?_
      refine v_iload_n K 3 dX9_changeRows_27 rfl rfl ?_
      refine v_imul K dX9_changeRows_28 ?_
      refine v_iload_n K 1 dX9_changeRows_29 rfl rfl ?_
      refine v_iadd K dX9_changeRows_30 ?_
      refine v_aload_n K 2 dX9_changeRows_31 rfl rfl ?_
      refine v_getr K ff_X9_53 (by decide) rfl rfl rfl dX9_changeRows_32 ?_
      refine v_bipush K dX9_changeRows_35 (by decide) ?_
      refine v_iload_n K 4 dX9_changeRows_37 rfl rfl ?_
      refine v_imul K dX9_changeRows_38 ?_
      refine v_iload_n K 1 dX9_changeRows_39 rfl rfl ?_
      refine v_iadd K dX9_changeRows_40 ?_
      refine v_lald K (6 * b + k) (by decide) rfl (by omega) (by show _ < 30; omega) dX9_changeRows_41 ?_
      refine v_last K (6 * a + k) (by decide) rfl (by omega) (by show _ < 30; omega) dX9_changeRows_42 ?_
      refine v_aload_n K 2 dX9_changeRows_43 rfl rfl ?_
      refine v_getr K ff_X9_53 (by decide) rfl rfl rfl dX9_changeRows_44 ?_
      refine v_bipush K dX9_changeRows_47 (by decide) ?_
      refine v_iload_n K 4 dX9_changeRows_49 rfl rfl ?_
      refine v_imul K dX9_changeRows_50 ?_
      refine v_iload_n K 1 dX9_changeRows_51 rfl rfl ?_
      refine v_iadd K dX9_changeRows_52 ?_
      refine v_lload K 0 dX9_changeRows_53 rfl ?_
      refine v_last K (6 * b + k) (by decide) rfl (by omega) (by show _ < 30; omega) dX9_changeRows_55 ?_
      refine v_iinc K 1 (fun q9 => [(3, .int (iI q9)), (4, .long (lJ t)), (0, .ref (Q 90)), (1, .int (iI (a : Int))), (2, .int (iI (b : Int)))]) dX9_changeRows_56 rfl (by decide) (fun _ => rfl) (fun w hw => ?_)
      refine v_goto K 2 dX9_changeRows_59 (by decide) ?_
      obtain rfl : w = ((k + 1 : Nat) : Int) := by omega
      refine v_eqL (L := swK ML a b (k + 1)) (by rw [ht]; exact swK_s (by omega)) ?_
      refine v_sub K [0, 2, 3, 4] rfl ?_
      exact ih (k + 1) (by omega) (by omega)
set_option maxRecDepth 100000 in
set_option maxHeartbeats 4000000 in
theorem c_X9_changeRows {l : Launch} {D : va_G} {Z : ZC} {Q : Nat → Nat} {MI ML : ZM} (a b : Nat) (ha : a < 5) (hb : b < 5) (a9 b9 : Int) (ha9 : a9 = a) (hb9 : b9 = b) : C_X9_changeRows l D Z Q [.ref (Q 90), .int (iI a9), .int (iI b9)] MI ML (zV fun M L => M = MI ∧ L = swK ML a b 6) := by
  subst ha9
  subst hb9
  refine CM.of (by decide +kernel) (Nat.le_of_ble_eq_true rfl) ?_
  intro X K E _ _ _ _
  show V X (0, 0) 110 Q z_rf MI ML 0 [(0, .ref (Q 90)), (1, .int (iI (a : Int))), (2, .int (iI (b : Int)))] []
  refine v_iconst K dX9_changeRows_0 ?_
  refine v_istore_n K (fun q9 => [(3, .int (iI q9)), (0, .ref (Q 90)), (1, .int (iI (a : Int))), (2, .int (iI (b : Int)))]) dX9_changeRows_1 rfl (by decide) (fun _ => rfl) (fun y hy => ?_)
  subst hy
  have q := l_X9_changeRows K a b ha hb E 7 0 (by omega) (by omega)
  rw [swK_0] at q
  exact q
