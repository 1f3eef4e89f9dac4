theorem mx_k {B : Nat} (h : isCt B) : z_kd (B + 8) = 4 ∧ z_rf (B + 8) 0 = some (B + 9) ∧ z_rf (B + 8) 2 = some (B + 10) ∧ z_rf (B + 8) 4 = some (B + 11) := by rcases h with rfl | rfl <;> decide +kernel
theorem mx_l {B : Nat} (h : isCt B) : z_kd (B + 9) = 10 ∧ z_ln (B + 9) = 5 ∧ z_kd (B + 10) = 10 ∧ z_ln (B + 10) = 5 ∧ z_kd (B + 11) = 10 ∧ z_ln (B + 11) = 1024 := by rcases h with rfl | rfl <;> decide +kernel
def bcA (m : Nat) : Nat := m - ((m / 2) &&& 1431655765)
def bcB (m : Nat) : Nat := (bcA m &&& 858993459) + ((bcA m / 4) &&& 858993459)
def bcC (m : Nat) : Nat := (bcB m + bcB m / 16) &&& 252645135
def bcD (m : Nat) : Nat := bcC m + bcC m / 256
def bcE (m : Nat) : Nat := bcD m + bcD m / 65536
theorem bc_1 : ∀ m : Nat, m < 32 → ((iI (m : Int)).toUInt32 >>> ((iI 1).toUInt32 &&& Int32.toUInt32 31)).toInt32 = iI ((m / 2 : Nat) : Int) ∧ iI ((m / 2 : Nat) : Int) &&& iI 1431655765 = iI (((m / 2) &&& 1431655765 : Nat) : Int) ∧ (m : Int) - (((m / 2) &&& 1431655765 : Nat) : Int) = (bcA m : Nat) := by decide +kernel
theorem bc_2 : ∀ m : Nat, m < 32 → iI ((bcA m : Nat) : Int) &&& iI 858993459 = iI ((bcA m &&& 858993459 : Nat) : Int) ∧ ((iI ((bcA m : Nat) : Int)).toUInt32 >>> ((iI 2).toUInt32 &&& Int32.toUInt32 31)).toInt32 = iI ((bcA m / 4 : Nat) : Int) ∧ iI ((bcA m / 4 : Nat) : Int) &&& iI 858993459 = iI (((bcA m / 4) &&& 858993459 : Nat) : Int) ∧ ((bcA m &&& 858993459 : Nat) : Int) + (((bcA m / 4) &&& 858993459 : Nat) : Int) = (bcB m : Nat) := by decide +kernel
theorem bc_3 : ∀ m : Nat, m < 32 → ((iI ((bcB m : Nat) : Int)).toUInt32 >>> ((iI 4).toUInt32 &&& Int32.toUInt32 31)).toInt32 = iI ((bcB m / 16 : Nat) : Int) ∧ iI (((bcB m : Nat) : Int) + ((bcB m / 16 : Nat) : Int)) &&& iI 252645135 = iI ((bcC m : Nat) : Int) := by decide +kernel
theorem bc_4 : ∀ m : Nat, m < 32 → ((iI ((bcC m : Nat) : Int)).toUInt32 >>> ((iI 8).toUInt32 &&& Int32.toUInt32 31)).toInt32 = iI ((bcC m / 256 : Nat) : Int) ∧ ((bcC m : Nat) : Int) + ((bcC m / 256 : Nat) : Int) = (bcD m : Nat) := by decide +kernel
theorem bc_5 : ∀ m : Nat, m < 32 → ((iI ((bcD m : Nat) : Int)).toUInt32 >>> ((iI 16).toUInt32 &&& Int32.toUInt32 31)).toInt32 = iI ((bcD m / 65536 : Nat) : Int) ∧ ((bcD m : Nat) : Int) + ((bcD m / 65536 : Nat) : Int) = (bcE m : Nat) ∧ iI ((bcE m : Nat) : Int) &&& iI 63 = iI ((bts m 5 : Nat) : Int) := by decide +kernel
set_option maxRecDepth 100000 in
set_option maxHeartbeats 4000000 in
theorem c_J6_bitCount_0f7a4 {l : Launch} {D : va_G} {Z : ZC} {Q : Nat → Nat} {MI ML : ZM} (m : Nat) (hm : m < 32) (m9 : Int) (hm9 : m9 = m) : C_J6_bitCount_0f7a4 l D Z Q [.int (iI m9)] MI ML (zI fun r M L => M = MI ∧ L = ML ∧ r = (bts m 5 : Nat)) := by
  subst hm9
  refine CM.of (by decide +kernel) (Nat.le_of_ble_eq_true rfl) ?_
  intro X K E _ _ _ _
  show V X (0, 0) 110 Q z_rf MI ML 0 [(0, .int (iI (m : Int)))] []
  refine v_iload_n K 0 dJ6_bitCount_0f7a4_0 rfl rfl ?_
  refine v_iload_n K 0 dJ6_bitCount_0f7a4_1 rfl rfl ?_
  refine v_iconst K dJ6_bitCount_0f7a4_2 ?_
  refine v_iushr K (((m / 2 : Nat) : Int)) ((bc_1 m hm).1) dJ6_bitCount_0f7a4_3 ?_
  refine v_ldcw K (1431655765) ck_J6_265 rfl dJ6_bitCount_0f7a4_4 ?_
  refine v_iand K ((((m / 2) &&& 1431655765 : Nat) : Int)) ((bc_1 m hm).2.1) dJ6_bitCount_0f7a4_7 ?_
  refine v_isub K dJ6_bitCount_0f7a4_8 ?_
  refine v_istore_n K (fun q9 => [(0, .int (iI q9))]) dJ6_bitCount_0f7a4_9 rfl (by decide) (fun _ => rfl) (fun x hx => ?_)
  obtain rfl : x = ((bcA m : Nat) : Int) := hx.trans ((bc_1 m hm).2.2)
  refine v_iload_n K 0 dJ6_bitCount_0f7a4_10 rfl rfl ?_
  refine v_ldcw K (858993459) ck_J6_266 rfl dJ6_bitCount_0f7a4_11 ?_
  refine v_iand K (((bcA m &&& 858993459 : Nat) : Int)) ((bc_2 m hm).1) dJ6_bitCount_0f7a4_14 ?_
  refine v_iload_n K 0 dJ6_bitCount_0f7a4_15 rfl rfl ?_
  refine v_iconst K dJ6_bitCount_0f7a4_16 ?_
  refine v_iushr K (((bcA m / 4 : Nat) : Int)) ((bc_2 m hm).2.1) dJ6_bitCount_0f7a4_17 ?_
  refine v_ldcw K (858993459) ck_J6_266 rfl dJ6_bitCount_0f7a4_18 ?_
  refine v_iand K ((((bcA m / 4) &&& 858993459 : Nat) : Int)) ((bc_2 m hm).2.2.1) dJ6_bitCount_0f7a4_21 ?_
  refine v_iadd K dJ6_bitCount_0f7a4_22 ?_
  refine v_istore_n K (fun q9 => [(0, .int (iI q9))]) dJ6_bitCount_0f7a4_23 rfl (by decide) (fun _ => rfl) (fun x hx => ?_)
  obtain rfl : x = ((bcB m : Nat) : Int) := hx.trans ((bc_2 m hm).2.2.2)
  refine v_iload_n K 0 dJ6_bitCount_0f7a4_24 rfl rfl ?_
  refine v_iload_n K 0 dJ6_bitCount_0f7a4_25 rfl rfl ?_
  refine v_iconst K dJ6_bitCount_0f7a4_26 ?_
  refine v_iushr K (((bcB m / 16 : Nat) : Int)) ((bc_3 m hm).1) dJ6_bitCount_0f7a4_27 ?_
  refine v_iadd K dJ6_bitCount_0f7a4_28 ?_
  refine v_ldcw K (252645135) ck_J6_267 rfl dJ6_bitCount_0f7a4_29 ?_
  refine v_iand K (((bcC m : Nat) : Int)) ((bc_3 m hm).2) dJ6_bitCount_0f7a4_32 ?_
  refine v_istore_n K (fun q9 => [(0, .int (iI q9))]) dJ6_bitCount_0f7a4_33 rfl (by decide) (fun _ => rfl) (fun x hx => ?_)
  obtain rfl : x = ((bcC m : Nat) : Int) := hx.trans (rfl)
  refine v_iload_n K 0 dJ6_bitCount_0f7a4_34 rfl rfl ?_
  refine v_iload_n K 0 dJ6_bitCount_0f7a4_35 rfl rfl ?_
  refine v_bipush K dJ6_bitCount_0f7a4_36 (by decide) ?_
  refine v_iushr K (((bcC m / 256 : Nat) : Int)) ((bc_4 m hm).1) dJ6_bitCount_0f7a4_38 ?_
  refine v_iadd K dJ6_bitCount_0f7a4_39 ?_
  refine v_istore_n K (fun q9 => [(0, .int (iI q9))]) dJ6_bitCount_0f7a4_40 rfl (by decide) (fun _ => rfl) (fun x hx => ?_)
  obtain rfl : x = ((bcD m : Nat) : Int) := hx.trans ((bc_4 m hm).2)
  refine v_iload_n K 0 dJ6_bitCount_0f7a4_41 rfl rfl ?_
  refine v_iload_n K 0 dJ6_bitCount_0f7a4_42 rfl rfl ?_
  refine v_bipush K dJ6_bitCount_0f7a4_43 (by decide) ?_
  refine v_iushr K (((bcD m / 65536 : Nat) : Int)) ((bc_5 m hm).1) dJ6_bitCount_0f7a4_45 ?_
  refine v_iadd K dJ6_bitCount_0f7a4_46 ?_
  refine v_istore_n K (fun q9 => [(0, .int (iI q9))]) dJ6_bitCount_0f7a4_47 rfl (by decide) (fun _ => rfl) (fun x hx => ?_)
  obtain rfl : x = ((bcE m : Nat) : Int) := hx.trans ((bc_5 m hm).2.1)
  refine v_iload_n K 0 dJ6_bitCount_0f7a4_48 rfl rfl ?_
  refine v_bipush K dJ6_bitCount_0f7a4_49 (by decide) ?_
  refine v_iand K (((bts m 5 : Nat) : Int)) ((bc_5 m hm).2.2) dJ6_bitCount_0f7a4_51 ?_
  exact v_ri K E dJ6_bitCount_0f7a4_52 ⟨rfl, rfl, rfl⟩
set_option maxRecDepth 100000 in
set_option maxHeartbeats 4000000 in
theorem c_X4_isIn {l : Launch} {D : va_G} {Z : ZC} {Q : Nat → Nat} {MI ML : ZM} (m k : Nat) (hm : m < 32) (hk : k < 5) (m9 k9 : Int) (hm9 : m9 = m) (hk9 : k9 = k) : C_X4_isIn l D Z Q [.int (iI m9), .int (iI k9)] MI ML (zI fun r M L => M = MI ∧ L = ML ∧ ((r = 1 ∧ bt1 m k = 1) ∨ (r = 0 ∧ bt1 m k ≠ 1))) := by
  subst hm9
  subst hk9
  refine CM.of (by decide +kernel) (Nat.le_of_ble_eq_true rfl) ?_
  intro X K E _ _ _ _
  show V X (0, 0) 110 Q z_rf MI ML 0 [(0, .int (iI (m : Int))), (1, .int (iI (k : Int)))] []
  refine v_iload_n K 0 dX4_isIn_0 rfl rfl ?_
  refine v_iload_n K 1 dX4_isIn_1 rfl rfl ?_
  have hle : m / 2 ^ k ≤ m := Nat.div_le_self _ _
  have hbb := bt1_b m k
  refine v_ishr K (((m / 2 ^ k : Nat) : Int)) (bit_shr (by omega) (by omega)) dX4_isIn_2 ?_
  refine v_iconst K dX4_isIn_3 ?_
  refine v_iand K (((bt1 m k : Nat) : Int)) (bit_and (by omega)) dX4_isIn_4 ?_
  refine v_iconst K dX4_isIn_5 ?_
  refine v_icmp_ne K 13 ⟨by omega, by omega⟩ ⟨by omega, by omega⟩ dX4_isIn_6 (by decide) (fun h6 => ?_) (fun h6 => ?_)
  · refine v_iconst K dX4_isIn_13 ?_
    exact v_rz K E (by omega) dX4_isIn_14 ⟨rfl, rfl, by omega⟩
  · refine v_iconst K dX4_isIn_9 ?_
    refine v_goto K 14 dX4_isIn_10 (by decide) ?_
    exact v_rz K E (by omega) dX4_isIn_14 ⟨rfl, rfl, by omega⟩
set_option maxRecDepth 100000 in
set_option maxHeartbeats 4000000 in
theorem l_X4_leastOf {X : VX} {Q : Nat → Nat} {MI ML : ZM} (K : VK X cX4_leastOf RX4 3 (some .int) 1 21 0 0) (B : Nat) (hB : isCt B) (N : Nat) (hN : MI (B + 8) 5 = N) (h1 : 1 ≤ N) (h5 : N ≤ 5) (m : Nat) (hm : m < 32) (he : ∃ q, q < N ∧ bt1 m q = 1) (E : VE X 0 0 110 Q (zq Q (zI fun r M L => M = MI ∧ L = ML ∧ ∃ k : Nat, r = k ∧ k < N ∧ bt1 m k = 1 ∧ ∀ q, q < k → bt1 m q ≠ 1))) : ∀ (n k : Nat), (∀ q, q < k → bt1 m q ≠ 1) → k + 1 ≤ N → N < k + 1 + n → V X (0, 0) 110 Q z_rf MI ML 2 [(2, .int (iI (k : Int))), (0, .ref (Q (B + 8))), (1, .int (iI (m : Int)))] [] := by
  intro n
  induction n with
  | zero => intro k G hk hn; exact absurd hn (by omega)
  | succ n ih =>
    intro k G hk hn
    refine v_iload_n K 0 dX4_leastOf_2 rfl rfl ?_
    refine v_aload_n K 1 dX4_leastOf_3 rfl rfl ?_
    refine v_geti K ff_X4_21 (by have := ct_b hB; omega) (mx_k hB).1 rfl dX4_leastOf_4 ?_
    refine v_eqi ((N : Int)) (hN) ?_
    refine v_iconst K dX4_leastOf_7 ?_
    refine v_isub K dX4_leastOf_8 ?_
    refine v_icmp_ge K 26 ⟨by omega, by omega⟩ ⟨by omega, by omega⟩ dX4_leastOf_9 (by decide) (fun h9 => ?_) (fun h9 => ?_)
    · refine v_iload_n K 0 dX4_leastOf_26 rfl rfl ?_
      exact v_ri K E dX4_leastOf_27 (by
        refine ⟨rfl, rfl, k, rfl, by omega, ?_, G⟩
        first
          | omega
          | (obtain ⟨q, q1, q2⟩ := he
             have e : q = k := by
               by_cases c : q < k
               · exact absurd q2 (G q c)
               · omega
             rw [← e]; exact q2))
    · refine v_iload_n K 2 dX4_leastOf_12 rfl rfl ?_
      refine v_iload_n K 0 dX4_leastOf_13 rfl rfl ?_
      refine v_cSi K (c_X4_isIn m k hm (by omega) _ _ rfl rfl) rfl fc_X4_60 wt_X4_isIn rfl (by decide) (Nat.le_of_ble_eq_true rfl) dX4_leastOf_14 (fun r14 M14 L14 h14 => ?_)
      obtain ⟨hm14, hl14, hr14⟩ := h14
      subst M14 L14
      refine v_if_ne K 26 ⟨by omega, by omega⟩ dX4_leastOf_17 (by decide) (fun h17 => ?_) (fun h17 => ?_)
      · refine v_iload_n K 0 dX4_leastOf_26 rfl rfl ?_
        exact v_ri K E dX4_leastOf_27 (by
        refine ⟨rfl, rfl, k, rfl, by omega, ?_, G⟩
        first
          | omega
          | (obtain ⟨q, q1, q2⟩ := he
             have e : q = k := by
               by_cases c : q < k
               · exact absurd q2 (G q c)
               · omega
             rw [← e]; exact q2))
      · refine v_iinc K 0 (fun q9 => [(2, .int (iI q9)), (0, .ref (Q (B + 8))), (1, .int (iI (m : Int)))]) dX4_leastOf_20 rfl (by decide) (fun _ => rfl) (fun w hw => ?_)
        refine v_goto K 2 dX4_leastOf_23 (by decide) ?_
        obtain rfl : w = ((k + 1 : Nat) : Int) := by omega
        exact ih (k + 1) (fun q hq => by by_cases e : q = k; (subst e; omega); exact G q (by omega)) (by omega) (by omega)
set_option maxRecDepth 100000 in
set_option maxHeartbeats 4000000 in
theorem c_X4_leastOf {l : Launch} {D : va_G} {Z : ZC} {Q : Nat → Nat} {MI ML : ZM} (B : Nat) (hB : isCt B) (N : Nat) (hN : MI (B + 8) 5 = N) (h1 : 1 ≤ N) (h5 : N ≤ 5) (m : Nat) (hm : m < 32) (he : ∃ q, q < N ∧ bt1 m q = 1) (m9 : Int) (hm9 : m9 = m) : C_X4_leastOf l D Z Q [.ref (Q (B + 8)), .int (iI m9)] MI ML (zI fun r M L => M = MI ∧ L = ML ∧ ∃ k : Nat, r = k ∧ k < N ∧ bt1 m k = 1 ∧ ∀ q, q < k → bt1 m q ≠ 1) := by
  subst hm9
  refine CM.of (by decide +kernel) (Nat.le_of_ble_eq_true rfl) ?_
  intro X K E _ _ _ _
  show V X (0, 0) 110 Q z_rf MI ML 0 [(0, .ref (Q (B + 8))), (1, .int (iI (m : Int)))] []
  refine v_iconst K dX4_leastOf_0 ?_
  refine v_istore_n K (fun q9 => [(2, .int (iI q9)), (0, .ref (Q (B + 8))), (1, .int (iI (m : Int)))]) dX4_leastOf_1 rfl (by decide) (fun _ => rfl) (fun y hy => ?_)
  subst hy
  exact l_X4_leastOf K B hB N hN h1 h5 m hm he E 6 0 (fun q hq => absurd hq (by omega)) (by omega) (by omega)
def cT (M : ZM) (B i c : Nat) : Int := M (B + 3 + i) c
def sg (n : Nat) : Int := if n % 2 = 0 then 1 else -1
theorem sg_s (n : Nat) : sg (n + 1) = - sg n := by unfold sg; split <;> split <;> omega
theorem cf_at : ∀ (A G : List Nat) (i : Nat) (f : List Nat → Int), ¬ i ∈ A → cf (A ++ i :: G) f i = sg A.length * f (A ++ G) := by
  intro A
  induction A with
  | nil => intro G i f _; simp [cf, sg]
  | cons a A ih =>
    intro G i f h
    have h1 : i ≠ a := fun e => h (e ▸ List.mem_cons_self)
    simp only [List.cons_append, cf, if_neg h1, List.length_cons]
    rw [ih G i (fun B' => f (a :: B')) (fun e => h (List.mem_cons_of_mem _ e)), sg_s]
    show - (sg A.length * f (a :: (A ++ G))) = _
    grind
theorem onL_d1 : ∀ m : Nat, m < 32 → ∀ N : Nat, N < 6 → ∀ i : Nat, i < N → bt1 m i = 1 → onL m N = onL m i ++ i :: (onL m N).drop (bts m i + 1) := by decide +kernel
theorem onL_d2 : ∀ m : Nat, m < 32 → ∀ N : Nat, N < 6 → ∀ i : Nat, i < N → bt1 m i = 1 → onL (m - 2 ^ i) N = onL m i ++ (onL m N).drop (bts m i + 1) := by decide +kernel
theorem onL_d3 : ∀ m : Nat, m < 32 → ∀ i : Nat, i < 5 → bt1 m i = 1 → iI (m : Int) ^^^ iI ((2 ^ i : Nat) : Int) = iI ((m - 2 ^ i : Nat) : Int) := by decide +kernel
theorem onL_d4 : ∀ m : Nat, m < 32 → ∀ i : Nat, i < 5 → bt1 m i = 1 → bts (m - 2 ^ i) 5 + 1 = bts m 5 ∧ 2 ^ i ≤ m := by decide +kernel
theorem onL_dec (m : Nat) (hm : m < 32) (N : Nat) (hN : N < 6) (i : Nat) (hi : i < N) (hb : bt1 m i = 1) : onL m N = onL m i ++ i :: (onL m N).drop (bts m i + 1) ∧ onL (m - 2 ^ i) N = onL m i ++ (onL m N).drop (bts m i + 1) ∧ iI (m : Int) ^^^ iI ((2 ^ i : Nat) : Int) = iI ((m - 2 ^ i : Nat) : Int) ∧ bts (m - 2 ^ i) 5 + 1 = bts m 5 ∧ 2 ^ i ≤ m := ⟨onL_d1 m hm N hN i hi hb, onL_d2 m hm N hN i hi hb, onL_d3 m hm i (by omega) hb, onL_d4 m hm i (by omega) hb⟩
theorem onL_sz (m : Nat) : ¬ m ∈ onL m m := fun h => by have := (onL_m.mp h).1; omega
theorem cf_on {m N i : Nat} (hm : m < 32) (hN : N < 6) (hi : i < N) (hb : bt1 m i = 1) (f : List Nat → Int) : cf (onL m N) f i = sg (bts m i) * f (onL (m - 2 ^ i) N) := by
  obtain ⟨d1, d2, -⟩ := onL_dec m hm N hN i hi hb
  rw [d1, d2, cf_at _ _ _ _ (fun h => by have := (onL_m.mp h).1; omega), onL_l]
def clr (m : Nat) : Nat := m &&& (m - 1)
def lsb (m k : Nat) : Bool := (List.range k).all (fun q => decide (bt1 m q ≠ 1))
theorem onL_c1 : ∀ m : Nat, m < 32 → ∀ N : Nat, N < 6 → ∀ k : Nat, k < N → (bt1 m k = 1 ∧ lsb m k = true) → onL m N = k :: onL (clr m) N := by decide +kernel
theorem onL_c2 : ∀ m : Nat, m < 32 → 1 ≤ m → iI (m : Int) &&& iI ((m : Int) - 1) = iI ((clr m : Nat) : Int) := by decide +kernel
theorem onL_c3 : ∀ m : Nat, m < 32 → 1 ≤ m → clr m < m ∧ bts (clr m) 5 + 1 = bts m 5 := by decide +kernel
theorem onL_clr (m : Nat) (hm : m < 32) (h0 : 1 ≤ m) (k : Nat) (hk : k < 5) (hb : bt1 m k = 1) (hl : ∀ q : Nat, q < k → bt1 m q ≠ 1) : (∀ N : Nat, N < 6 → k < N → onL m N = k :: onL (clr m) N) ∧ iI (m : Int) &&& iI ((m : Int) - 1) = iI ((clr m : Nat) : Int) ∧ clr m < m ∧ bts (clr m) 5 + 1 = bts m 5 := ⟨fun N h1 h2 => onL_c1 m hm N h1 k h2 ⟨hb, by simp only [lsb, List.all_eq_true, List.mem_range, decide_eq_true_eq]; exact hl⟩, onL_c2 m hm h0, onL_c3 m hm h0⟩
theorem bts_5 : ∀ m : Nat, m < 32 → ∀ N : Nat, N < 6 → m < 2 ^ N → bts m N = bts m 5 ∧ (m ≠ 0 → ∃ q, q < N ∧ bt1 m q = 1) ∧ (bts m 5 = 0 ↔ m = 0) := by
  intro m hm N hN h
  refine ⟨(bts_hi h 5 (by omega)).symm, fun h0 => ?_, ?_⟩
  · have e : bts m 5 ≠ 0 → ∃ q, q < 5 ∧ bt1 m q = 1 := by
      intro h
      obtain ⟨q, q1, q2, -⟩ := bts_hit (s := m) 5 0 (by omega)
      exact ⟨q, q1, q2⟩
    have z : ∀ m : Nat, m < 32 → bts m 5 = 0 → m = 0 := by decide +kernel
    obtain ⟨q, -, q2⟩ := e (fun z' => h0 (z m hm z'))
    refine ⟨q, ?_, q2⟩
    by_cases c : q < N
    · exact c
    · have := bt1_hi h (k := q) (by omega); omega
  · exact (by decide +kernel : ∀ m : Nat, m < 32 → (bts m 5 = 0 ↔ m = 0)) m hm
/-- the minors that the Mix of the contest B must hold -/
def mnr (M : ZM) (B N R C : Nat) : Int := dt (wT (cT M B)) (onL C N) (onL R N)
def mnK (MI M : ZM) (B N r c : Nat) : Prop := (∀ a b, a ≠ B + 11 → M a b = MI a b) ∧ M (B + 11) 0 = 1 ∧ ∀ R C, 1 ≤ R → 1 ≤ C → R < 2 ^ N → C < 2 ^ N → bts R 5 = bts C 5 → (R < r ∨ (R = r ∧ C < c)) → M (B + 11) (32 * R + C) = mnr MI B N R C
theorem lt32 {m N : Nat} (h : N ≤ 5) (hm : m < 2 ^ N) : m < 32 := Nat.lt_of_lt_of_le hm (Nat.pow_le_pow_right (n := 2) (by decide) h)
set_option maxRecDepth 100000 in
set_option maxHeartbeats 4000000 in
theorem l_X4_minorOf {X : VX} {Q : Nat → Nat} {MI ML : ZM} (K : VK X cX4_minorOf RX4 9 (some .int) 2 43 0 0) (B : Nat) (hB : isCt B) (N : Nat) (hN : MI (B + 8) 5 = N) (h1 : 1 ≤ N) (h5 : N ≤ 5) (R C : Nat) (hR : R < 2 ^ N) (hC : C < 2 ^ N) (hC0 : C ≠ 0) (hk : ∀ i, i < N → bt1 R i = 1 → MI (B + 11) (32 * (R - 2 ^ i) + clr C) = dt (wT (cT MI B)) (onL (clr C) N) (onL (R - 2 ^ i) N)) (c : Nat) (hc : c < N) (hcb : onL C N = c :: onL (clr C) N) (hcl : clr C < 32) (E : VE X 0 0 110 Q (zq Q (zI fun r M L => M = MI ∧ L = ML ∧ r = dt (wT (cT MI B)) (onL C N) (onL R N)))) : ∀ (n k : Nat), k ≤ N → N < k + n → V X (0, 0) 110 Q z_rf MI ML 23 [(8, .int (iI (k : Int))), (7, .int (iI (sumK (fun i => cf (onL R N) (dt (wT (cT MI B)) (onL (clr C) N)) i * wT (cT MI B) i c) k))), (6, .int (iI (sg (bts R k)))), (5, .int (iI ((clr C : Nat) : Int))), (4, .int (iI (c : Int))), (0, .ref (Q (B + 8))), (1, .ref (Q (B + 2))), (2, .int (iI (R : Int))), (3, .int (iI (C : Int)))] [] := by
  intro n
  induction n with
  | zero => intro k hkN hn; exact absurd hn (by omega)
  | succ n ih =>
    intro k hkN hn
    refine v_iload K 0 dX4_minorOf_23 rfl ?_
    refine v_aload_n K 5 dX4_minorOf_25 rfl rfl ?_
    refine v_geti K ff_X4_21 (by have := ct_b hB; omega) (mx_k hB).1 rfl dX4_minorOf_26 ?_
    refine v_eqi ((N : Int)) (hN) ?_
    refine v_icmp_ge K 85 ⟨by omega, by omega⟩ ⟨by omega, by omega⟩ dX4_minorOf_29 (by decide) (fun h29 => ?_) (fun h29 => ?_)
    · obtain e9 : k = N := (by omega)
      refine v_iload K 1 dX4_minorOf_85 rfl ?_
      exact v_ri K E dX4_minorOf_87 ⟨rfl, rfl, by rw [e9, ← cf_sum (wT (cT MI B)) c N (onL R N) _ (onL_nd R N) (fun k hk => (onL_m.mp hk).1), hcb]; rfl⟩
    · have r32 := lt32 h5 hR
      have bb := bt1_b R k
      have es : bts R (k + 1) = bts R k + bt1 R k := rfl
      refine v_iload_n K 7 dX4_minorOf_32 rfl rfl ?_
      refine v_iload K 0 dX4_minorOf_33 rfl ?_
      refine v_cSi K (c_X4_isIn R k r32 (by omega) _ _ rfl rfl) rfl fc_X4_60 wt_X4_isIn rfl (by decide) (Nat.le_of_ble_eq_true rfl) dX4_minorOf_35 (fun r35 M35 L35 h35 => ?_)
      obtain ⟨hm35, hl35, hr35⟩ := h35
      subst M35 L35
      refine v_if_eq K 79 ⟨by omega, by omega⟩ dX4_minorOf_38 (by decide) (fun h38 => ?_) (fun h38 => ?_)
      · refine v_iinc K 0 (fun q9 => [(8, .int (iI q9)), (7, .int (iI (sumK (fun i => cf (onL R N) (dt (wT (cT MI B)) (onL (clr C) N)) i * wT (cT MI B) i c) k))), (6, .int (iI (sg (bts R k)))), (5, .int (iI ((clr C : Nat) : Int))), (4, .int (iI (c : Int))), (0, .ref (Q (B + 8))), (1, .ref (Q (B + 2))), (2, .int (iI (R : Int))), (3, .int (iI (C : Int)))]) dX4_minorOf_79 rfl (by decide) (fun _ => rfl) (fun w hw => ?_)
        refine v_goto K 23 dX4_minorOf_82 (by decide) ?_
        obtain rfl : w = ((k + 1 : Nat) : Int) := by omega
        rw [show sg (bts R k) = sg (bts R (k + 1)) by rw [es]; congr 1; omega, show sumK (fun i => cf (onL R N) (dt (wT (cT MI B)) (onL (clr C) N)) i * wT (cT MI B) i c) k = sumK (fun i => cf (onL R N) (dt (wT (cT MI B)) (onL (clr C) N)) i * wT (cT MI B) i c) (k + 1) by (simp only [sumK]; rw [cf_out _ _ _ (fun h => by have := (onL_m.mp h).2; omega)]; omega)]
        exact ih (k + 1) (by omega) (by omega)
      · have hb : bt1 R k = 1 := by omega
        have dc := onL_dec R r32 N (by omega) k (by omega) hb
        have p2 : R - 2 ^ k ≤ R := Nat.sub_le _ _
        refine v_iload K 1 dX4_minorOf_41 rfl ?_
        refine v_iload K 2 dX4_minorOf_43 rfl ?_
        refine v_aload_n K 6 dX4_minorOf_45 rfl rfl ?_
        refine v_iload K 0 dX4_minorOf_46 rfl ?_
        refine v_aaldT K (k) (by have := ct_b hB; omega) (ct_k hB).2.2.1 (by omega) (by rw [(ct_k hB).2.2.2]; omega) (ct_r hB (by omega)).1 dX4_minorOf_48 ?_
        refine v_iload K 4 dX4_minorOf_49 rfl ?_
        refine v_iald K (c) (by have := ct_b hB; omega) (ct_r hB (i := k) (by omega)).2.1 (by omega) (by rw [(ct_r hB (i := k) (by omega)).2.2]; omega) dX4_minorOf_51 ?_
        refine v_eqi (wT (cT MI B) k c) ((show MI (B + 3 + k) c = wT (cT MI B) k c by unfold wT; rw [if_neg (by omega)]; rfl)) ?_
        refine v_imul K dX4_minorOf_52 ?_
        refine v_aload_n K 5 dX4_minorOf_53 rfl rfl ?_
        refine v_getr K ff_X4_18 (by have := ct_b hB; omega) (mx_k hB).1 rfl (mx_k hB).2.2.2 dX4_minorOf_54 ?_
        refine v_iload_n K 7 dX4_minorOf_57 rfl rfl ?_
        refine v_iconst K dX4_minorOf_58 ?_
        refine v_iload K 0 dX4_minorOf_59 rfl ?_
        refine v_ishl K (((2 ^ k : Nat) : Int)) (shl_1 k (by omega)) dX4_minorOf_61 ?_
        refine v_ixor K (((R - 2 ^ k : Nat) : Int)) (dc.2.2.1) dX4_minorOf_62 ?_
        refine v_bipush K dX4_minorOf_63 (by decide) ?_
        refine v_imul K dX4_minorOf_65 ?_
        refine v_iload K 3 dX4_minorOf_66 rfl ?_
        refine v_iadd K dX4_minorOf_68 ?_
        refine v_iald K (32 * (R - 2 ^ k) + clr C) (by have := ct_b hB; omega) (mx_l hB).2.2.2.2.1 (by omega) (by rw [(mx_l hB).2.2.2.2.2]; omega) dX4_minorOf_69 ?_
        refine v_eqi (dt (wT (cT MI B)) (onL (clr C) N) (onL (R - 2 ^ k) N)) (hk k (by omega) hb) ?_
        refine v_imul K dX4_minorOf_70 ?_
        refine v_iadd K dX4_minorOf_71 ?_
        refine v_istore K (fun q9 => [(7, .int (iI q9)), (8, .int (iI (k : Int))), (6, .int (iI (sg (bts R k)))), (5, .int (iI ((clr C : Nat) : Int))), (4, .int (iI (c : Int))), (0, .ref (Q (B + 8))), (1, .ref (Q (B + 2))), (2, .int (iI (R : Int))), (3, .int (iI (C : Int)))]) dX4_minorOf_72 (by decide) (fun _ => rfl) (fun s2 hs2 => ?_)
        refine v_iload K 2 dX4_minorOf_74 rfl ?_
        refine v_ineg K dX4_minorOf_76 ?_
        refine v_istore K (fun q9 => [(6, .int (iI q9)), (7, .int (iI s2)), (8, .int (iI (k : Int))), (5, .int (iI ((clr C : Nat) : Int))), (4, .int (iI (c : Int))), (0, .ref (Q (B + 8))), (1, .ref (Q (B + 2))), (2, .int (iI (R : Int))), (3, .int (iI (C : Int)))]) dX4_minorOf_77 (by decide) (fun _ => rfl) (fun g2 hg2 => ?_)
        refine v_iinc K 2 (fun q9 => [(8, .int (iI q9)), (6, .int (iI g2)), (7, .int (iI s2)), (5, .int (iI ((clr C : Nat) : Int))), (4, .int (iI (c : Int))), (0, .ref (Q (B + 8))), (1, .ref (Q (B + 2))), (2, .int (iI (R : Int))), (3, .int (iI (C : Int)))]) dX4_minorOf_79 rfl (by decide) (fun _ => rfl) (fun w hw => ?_)
        refine v_goto K 23 dX4_minorOf_82 (by decide) ?_
        refine v_sub K [0, 2, 1, 3, 4, 5, 6, 7, 8] rfl ?_
        obtain rfl : w = ((k + 1 : Nat) : Int) := by omega
        obtain rfl : s2 = sumK (fun i => cf (onL R N) (dt (wT (cT MI B)) (onL (clr C) N)) i * wT (cT MI B) i c) (k + 1) := by (rw [hs2]; simp only [sumK]; rw [cf_on r32 (by omega) (by omega) hb]; grind)
        obtain rfl : g2 = sg (bts R (k + 1)) := by rw [hg2, es, hb, sg_s]
        exact ih (k + 1) (by omega) (by omega)
set_option maxRecDepth 100000 in
set_option maxHeartbeats 4000000 in
theorem c_X4_minorOf {l : Launch} {D : va_G} {Z : ZC} {Q : Nat → Nat} {MI ML : ZM} (B : Nat) (hB : isCt B) (N : Nat) (hN : MI (B + 8) 5 = N) (h1 : 1 ≤ N) (h5 : N ≤ 5) (R C : Nat) (hR : R < 2 ^ N) (hC : C < 2 ^ N) (hC0 : C ≠ 0) (hk : ∀ i, i < N → bt1 R i = 1 → MI (B + 11) (32 * (R - 2 ^ i) + clr C) = dt (wT (cT MI B)) (onL (clr C) N) (onL (R - 2 ^ i) N)) (R9 C9 : Int) (hR9 : R9 = R) (hC9 : C9 = C) : C_X4_minorOf l D Z Q [.ref (Q (B + 8)), .ref (Q (B + 2)), .int (iI R9), .int (iI C9)] MI ML (zI fun r M L => M = MI ∧ L = ML ∧ r = dt (wT (cT MI B)) (onL C N) (onL R N)) := by
  subst hR9
  subst hC9
  refine CM.of (by decide +kernel) (Nat.le_of_ble_eq_true rfl) ?_
  intro X K E _ _ _ _
  show V X (0, 0) 110 Q z_rf MI ML 0 [(0, .ref (Q (B + 8))), (1, .ref (Q (B + 2))), (2, .int (iI (R : Int))), (3, .int (iI (C : Int)))] []
  refine v_aload_n K 0 dX4_minorOf_0 rfl rfl ?_
  refine v_iload_n K 3 dX4_minorOf_1 rfl rfl ?_
  refine v_cVi K (c_X4_leastOf B hB N hN h1 h5 C (lt32 h5 hC) ((bts_5 C (lt32 h5 hC) N (by omega) hC).2.1 hC0) _ rfl) rfl fc_X4_57 wm_X4_leastOf ws_X4_leastOf (by have := ct_b hB; omega) 4 (mx_k hB).1 (by decide) rfl rfl (by decide) (Nat.le_of_ble_eq_true rfl) dX4_minorOf_2 (fun r2 M2 L2 h2 => ?_)
  obtain ⟨hm2, hl2, c, hr2, c1, c2, c3⟩ := h2
  subst M2 L2 r2
  have cl := onL_clr C (lt32 h5 hC) (by omega) c (by omega) c2 c3
  have c32 := lt32 h5 hC
  refine v_istore K (fun q9 => [(4, .int (iI q9)), (0, .ref (Q (B + 8))), (1, .ref (Q (B + 2))), (2, .int (iI (R : Int))), (3, .int (iI (C : Int)))]) dX4_minorOf_5 (by decide) (fun _ => rfl) (fun c8 hc8 => ?_)
  subst hc8
  refine v_iload_n K 4 dX4_minorOf_7 rfl rfl ?_
  refine v_iload_n K 4 dX4_minorOf_8 rfl rfl ?_
  refine v_iconst K dX4_minorOf_9 ?_
  refine v_isub K dX4_minorOf_10 ?_
  refine v_iand K (((clr C : Nat) : Int)) (cl.2.1) dX4_minorOf_11 ?_
  refine v_istore K (fun q9 => [(5, .int (iI q9)), (4, .int (iI (c : Int))), (0, .ref (Q (B + 8))), (1, .ref (Q (B + 2))), (2, .int (iI (R : Int))), (3, .int (iI (C : Int)))]) dX4_minorOf_12 (by decide) (fun _ => rfl) (fun o ho => ?_)
  subst ho
  refine v_iconst K dX4_minorOf_14 ?_
  refine v_istore K (fun q9 => [(6, .int (iI q9)), (5, .int (iI ((clr C : Nat) : Int))), (4, .int (iI (c : Int))), (0, .ref (Q (B + 8))), (1, .ref (Q (B + 2))), (2, .int (iI (R : Int))), (3, .int (iI (C : Int)))]) dX4_minorOf_15 (by decide) (fun _ => rfl) (fun g hg => ?_)
  refine v_iconst K dX4_minorOf_17 ?_
  refine v_istore K (fun q9 => [(7, .int (iI q9)), (6, .int (iI g)), (5, .int (iI ((clr C : Nat) : Int))), (4, .int (iI (c : Int))), (0, .ref (Q (B + 8))), (1, .ref (Q (B + 2))), (2, .int (iI (R : Int))), (3, .int (iI (C : Int)))]) dX4_minorOf_18 (by decide) (fun _ => rfl) (fun s hs => ?_)
  refine v_iconst K dX4_minorOf_20 ?_
  refine v_istore K (fun q9 => [(8, .int (iI q9)), (7, .int (iI s)), (6, .int (iI g)), (5, .int (iI ((clr C : Nat) : Int))), (4, .int (iI (c : Int))), (0, .ref (Q (B + 8))), (1, .ref (Q (B + 2))), (2, .int (iI (R : Int))), (3, .int (iI (C : Int)))]) dX4_minorOf_21 (by decide) (fun _ => rfl) (fun k0 hk0 => ?_)
  subst hk0 hg hs
  exact l_X4_minorOf K B hB N hN h1 h5 R C hR hC hC0 hk c c1 (cl.1 N (by omega) c1) (by omega) E 6 0 (by omega) (by omega)
