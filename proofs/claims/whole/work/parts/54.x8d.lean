/-- what every operation of the class leaves: its own data, and what lies behind -/
def mF (MI M : ZM) : Prop := ∀ a b, ¬ (a = 0 ∧ (b = 10 ∨ b = 11)) → (a < 16 ∨ 90 ≤ a) → M a b = MI a b
theorem mF.rf (M : ZM) : mF M M := fun _ _ _ _ => rfl
theorem mF.trans {A B C : ZM} (h : mF A B) (h2 : mF B C) : mF A C := fun a b q1 q2 => (h2 a b q1 q2).trans (h a b q1 q2)
theorem mF.co {MI M : ZM} (h : mF MI M) : coC MI M := fun a b q1 q2 => h a b q2 (Or.inl q1)
theorem qF.m {MI M : ZM} (h : qF MI M) : mF MI M := fun a b q1 q2 => h a b (by omega) (by omega) (by omega) (by omega) (by omega) (by omega)
/-- the Mix now holds the mix of the tables -/
def cMx (M : ZM) : Prop := M 27 5 = M 0 8 ∧ M 27 1 = sumK (M 28) (M 0 8).toNat ∧ mxI (cTab M) (M 0 8).toNat (M 28) ∧ ∀ q, q < (M 0 8).toNat → 0 ≤ M 28 q ∧ M 28 q ≤ 10000
def mK (M : ZM) : Prop := M 0 11 = 0 ∨ (M 0 11 = 1 ∧ cMx M)
theorem cMx_keep {M M' : ZM} (hM : cOk M) (co : coC M M') (h7 : ∀ b, M' 27 b = M 27 b) (h8 : ∀ b, M' 28 b = M 28 b) (h : cMx M) : cMx M' := by
  have u4 := hM.2.1
  have e8 : M' 0 8 = M 0 8 := co 0 8 (by decide) (by decide)
  have e28 : M' 28 = M 28 := funext h8
  unfold cMx
  rw [e8, e28, h7, h7]
  exact ⟨h.1, h.2.1, mxI_cg (fun i j hi hj => (co.tab (by omega) (by omega)).symm) h.2.2.1, h.2.2.2⟩
theorem mK_q {M M' : ZM} (hM : cOk M) (h : qF M M') (k : mK M) : mK M' := by
  have e : M' 0 11 = M 0 11 := h 0 11 (by omega) (by omega) (by omega) (by omega) (by omega) (by omega)
  rcases k with k | ⟨k, c⟩
  · exact Or.inl (by rw [e]; exact k)
  · exact Or.inr ⟨by rw [e]; exact k, cMx_keep hM h.co (fun b => h _ _ (by omega) (by omega) (by omega) (by omega) (by omega) (by omega)) (fun b => h _ _ (by omega) (by omega) (by omega) (by omega) (by omega) (by omega)) c⟩
theorem kn_k2 {M M' : ZM} (hM : cOk M) (h : ∀ a b, ¬ (a = 0 ∧ b = 11) → ¬ (a = 16 ∧ b = 2) → ¬ (17 ≤ a ∧ a ≤ 18) → ¬ (27 ≤ a ∧ a ≤ 30) → ¬ (51 ≤ a ∧ a ≤ 82) → ¬ (85 ≤ a ∧ a ≤ 89) → M' a b = M a b) (hF : cFix M) (hK : cKn M) (hz : ∀ p, isPl p → 51 ≤ p → M' (p + 2) 0 = 0) (hd : ∀ a, a < 5 → M' (54 + a) a = 0) : cFix M' ∧ cKn M' := by
  have u4 := hM.2.1
  have co : coC M M' := fun a b q1 q2 => h a b (by omega) (by omega) (by omega) (by omega) (by omega) (by omega)
  have e8 : M' 0 8 = M 0 8 := co 0 8 (by decide) (by decide)
  have k : ∀ a b, 19 ≤ a → a < 51 → ¬ (27 ≤ a ∧ a ≤ 30) → M' a b = M a b := fun a b h1 h2 h3 => h a b (by omega) (by omega) (by omega) h3 (by omega) (by omega)
  refine ⟨⟨fun p hp => ?_, fun a ha => ?_⟩, fun a ha => ?_, fun a b ha hb => ?_, ?_⟩
  · by_cases e : 51 ≤ p
    · exact hz p hp e
    · rcases isPl_z hp with ⟨j, hj, rfl⟩ | ⟨j, hj, rfl⟩ | rfl
      · rw [k _ _ (by omega) (by omega) (by omega)]; exact hF.1 _ hp
      · omega
      · omega
  · rw [k _ _ (by omega) (by omega) (by omega)]; exact ⟨(hF.2 a ha).1, hd a ha⟩
  · rw [e8] at ha
    rw [co.pl (by omega)]
    exact plR_keep (hK.1 a ha) (funext fun y => k _ y (by omega) (by omega) (by omega)) (funext fun y => k _ y (by omega) (by omega) (by omega))
  · rw [e8] at ha hb
    rw [co.tab (by omega) (by omega), k _ _ (by omega) (by omega) (by omega)]
    exact hK.2.1 a b ha hb
  · rw [e8, rgs_congr (U := cTab M) (fun i j h1 h2 => co.tab (by omega) (by omega))]
    have f : ∀ a b, 83 ≤ a → a < 85 → M' a b = M a b := fun a b h1 h2 => h a b (by omega) (by omega) (by omega) (by omega) (by omega) (by omega)
    exact ⟨by rw [f _ _ (by omega) (by omega)]; exact hK.2.2.1, fun i q hq => by rw [f _ _ (by omega) (by omega), f _ _ (by omega) (by omega), f _ _ (by omega) (by omega)]; exact hK.2.2.2 i q hq⟩
set_option maxRecDepth 100000 in
set_option maxHeartbeats 4000000 in
theorem c_X8_learnMix {l : Launch} {D : va_G} {Z : ZC} {Q : Nat → Nat} {MI ML : ZM} (hM : cOk MI) (hF : cFix MI) (hK : kn MI) (hX : mK MI) (hp : 0 < MI 0 8) : C_X8_learnMix l D Z Q [.ref (Q 0)] MI ML (zV fun M L => L = ML ∧ mF MI M ∧ cFix M ∧ (M 0 10 = 1 ∧ cKn M) ∧ M 0 11 = 1 ∧ cMx M) := by
  refine CM.of (by decide +kernel) (Nat.le_of_ble_eq_true rfl) ?_
  intro X K E _ _ _ _
  show V X (0, 0) 110 Q z_rf MI ML 0 [(0, .ref (Q 0))] []
  have u4 := hM.2.1
  refine v_aload_n K 0 dX8_learnMix_0 rfl rfl ?_
  refine v_cVv K (c_X8_learnTables hM hF hK) rfl fc_X8_106 wm_X8_learnTables ws_X8_learnTables (by decide) 8 rfl (by decide) rfl rfl (by decide) (Nat.le_of_ble_eq_true rfl) dX8_learnMix_1 (fun M1 L1 h1 => ?_)
  obtain ⟨hl1, F1, F2, F3, F4⟩ := h1
  subst L1
  have co := F1.co
  have e8 : M1 0 8 = MI 0 8 := co 0 8 (by decide) (by decide)
  have hMM := co.ok hM
  have tb : ∀ i k, i < (MI 0 8).toNat → k < (MI 0 8).toNat → cT M1 19 i k = cTab M1 i k := fun i k hi hk => F3.2.1 i k (by rw [e8]; omega) (by rw [e8]; omega)
  have e11 : M1 0 11 = MI 0 11 := F1 0 11 (by omega) (by omega) (by omega) (by omega) (by omega) (by omega)
  have x1 : mK M1 := mK_q hM F1.q hX
  have r11 : M1 0 11 = 0 ∨ M1 0 11 = 1 := by rcases x1 with q | q <;> omega
  refine v_aload_n K 0 dX8_learnMix_4 rfl rfl ?_
  refine v_geti K ff_X8_190 (by decide) rfl rfl dX8_learnMix_5 ?_
  refine v_if_ne K 37 ⟨by omega, by omega⟩ dX8_learnMix_8 (by decide) (fun h8 => ?_) (fun h8 => ?_)
  · exact v_rv K E dX8_learnMix_37 (by
    first
      | exact ⟨rfl, F1.q.m, F2, ⟨F4, F3⟩, by omega, by
          rcases x1 with q | q
          · omega
          · exact q.2⟩
      | (obtain ⟨M9, hM9⟩ : ∃ M9, M9 = z_up M29 0 11 1 := ⟨_, rfl⟩
         rw [← hM9]
         have f : ∀ a b, ¬ (a = 0 ∧ b = 11) → (a < 27 ∨ 30 < a) → M9 a b = M1 a b := fun a b q1 q2 => by
           rw [hM9]; simp only [z_up]; rw [if_neg q1]; exact G1 a b q2
         have k9 := kn_k2 (M' := M9) hMM (fun a b q1 _ _ q4 _ _ => f a b q1 (by omega)) F2 F3 (fun p hp q => by rw [f _ _ (by omega) (by omega)]; exact F2.1 p hp) (fun a ha => by rw [f _ _ (by omega) (by omega)]; exact (F2.2 a ha).2)
         have co9 : coC M1 M9 := fun a b q1 q2 => f a b (by omega) (by omega)
         have e89 : M9 0 8 = MI 0 8 := (co9 0 8 (by decide) (by decide)).trans e8
         have s28 : M9 28 = M29 28 := by funext b; rw [hM9, z_up_k (by decide)]
         refine ⟨rfl, F1.q.m.trans (fun a b q1 q2 => f a b (by omega) (by omega)), k9.1, ⟨by rw [f _ _ (by omega) (by omega)]; exact F4, k9.2⟩, by rw [hM9, z_up_s], ?_⟩
         unfold cMx
         rw [e89, s28, hM9, z_up_k (by decide), z_up_k (by decide), ← hM9]
         refine ⟨by rw [show M29 27 5 = _ from G2]; omega, G3, mxI_cg (fun i j hi hj => ?_) G4, G5⟩
         rw [tb i j hi hj]; exact (co9.tab (by omega) (by omega)).symm))
  · refine v_aload_n K 0 dX8_learnMix_11 rfl rfl ?_
    refine v_getr K ff_X8_35 (by decide) rfl rfl rfl dX8_learnMix_12 ?_
    refine v_getr K ff_X8_150 (by decide) rfl rfl rfl dX8_learnMix_15 ?_
    refine v_aload_n K 0 dX8_learnMix_18 rfl rfl ?_
    refine v_getr K ff_X8_35 (by decide) rfl rfl rfl dX8_learnMix_19 ?_
    refine v_getr K ff_X8_136 (by decide) rfl rfl rfl dX8_learnMix_22 ?_
    refine v_aload_n K 0 dX8_learnMix_25 rfl rfl ?_
    refine v_geti K ff_X8_82 (by decide) rfl rfl dX8_learnMix_26 ?_
    refine v_eqi ((((MI 0 8).toNat : Nat) : Int)) (by rw [e8]; omega) ?_
    refine v_cVv K (c_X4_find (MI := M1) 19 (Or.inl rfl) (MI 0 8).toNat (by omega) (by omega) (fun i k hi hk => by rw [tb i k hi hk]; exact cTab_b M1 i k) (fun i k hi hk => by rw [tb i k hi hk, tb k i hk hi]; exact cTab_a M1 i k) _ rfl) rfl fc_X8_208 wm_X4_find ws_X4_find (by decide) 4 rfl (by decide) rfl rfl (by decide) (Nat.le_of_ble_eq_true rfl) dX8_learnMix_29 (fun M29 L29 h29 => ?_)
    obtain ⟨hl29, G1, G2, G3, G4, G5⟩ := h29
    subst L29
    refine v_aload_n K 0 dX8_learnMix_32 rfl rfl ?_
    refine v_iconst K dX8_learnMix_33 ?_
    refine v_putz K fp_X8_190 (Or.inr rfl) (by decide) rfl rfl dX8_learnMix_34 ?_
    exact v_rv K E dX8_learnMix_37 (by
    first
      | exact ⟨rfl, F1.q.m, F2, ⟨F4, F3⟩, by omega, by
          rcases x1 with q | q
          · omega
          · exact q.2⟩
      | (obtain ⟨M9, hM9⟩ : ∃ M9, M9 = z_up M29 0 11 1 := ⟨_, rfl⟩
         rw [← hM9]
         have f : ∀ a b, ¬ (a = 0 ∧ b = 11) → (a < 27 ∨ 30 < a) → M9 a b = M1 a b := fun a b q1 q2 => by
           rw [hM9]; simp only [z_up]; rw [if_neg q1]; exact G1 a b q2
         have k9 := kn_k2 (M' := M9) hMM (fun a b q1 _ _ q4 _ _ => f a b q1 (by omega)) F2 F3 (fun p hp q => by rw [f _ _ (by omega) (by omega)]; exact F2.1 p hp) (fun a ha => by rw [f _ _ (by omega) (by omega)]; exact (F2.2 a ha).2)
         have co9 : coC M1 M9 := fun a b q1 q2 => f a b (by omega) (by omega)
         have e89 : M9 0 8 = MI 0 8 := (co9 0 8 (by decide) (by decide)).trans e8
         have s28 : M9 28 = M29 28 := by funext b; rw [hM9, z_up_k (by decide)]
         refine ⟨rfl, F1.q.m.trans (fun a b q1 q2 => f a b (by omega) (by omega)), k9.1, ⟨by rw [f _ _ (by omega) (by omega)]; exact F4, k9.2⟩, by rw [hM9, z_up_s], ?_⟩
         unfold cMx
         rw [e89, s28, hM9, z_up_k (by decide), z_up_k (by decide), ← hM9]
         refine ⟨by rw [show M29 27 5 = _ from G2]; omega, G3, mxI_cg (fun i j hi hj => ?_) G4, G5⟩
         rw [tb i j hi hj]; exact (co9.tab (by omega) (by omega)).symm))
theorem iI_rem {a b : Nat} (ha : a < 2147483648) (h0 : 0 < b) (hb : b < 2147483648) : iI (a : Int) - iI (a : Int) / iI (b : Int) * iI (b : Int) = iI ((a % b : Nat) : Int) := by
  rw [iI_N, iI_N, iI_N]
  exact pk_rem ha h0 hb
theorem iI_div {a b : Nat} (ha : a < 2147483648) (h0 : 0 < b) (hb : b < 2147483648) : iI (a : Int) / iI (b : Int) = iI ((a / b : Nat) : Int) := by
  rw [iI_N, iI_N, iI_N]
  exact pk_div ha h0 hb
theorem iI_ne {a : Int} (ha : rg a) (h : a ≠ 0) : ¬ iI a = 0 := by
  rw [show (0 : Int32) = iI 0 from rfl, iI_eq ha ⟨by decide, by decide⟩]; exact h
theorem rgN {x : Nat} (h : x ≤ 50000) : rg ((x : Nat) : Int) := ⟨by omega, by omega⟩
def gdI (x y k : Nat) : Prop := (k = 0 ∧ x ≤ 50000 ∧ y ≤ 50000) ∨ (1 ≤ k ∧ y ≤ x ∧ x ≤ 50000 ∧ x * y * 2 ^ k < 8589934592)
theorem gdI_k {x y k : Nat} (h : gdI x y k) (hy : y ≠ 0) : k ≤ 32 ∧ x ≤ 50000 ∧ y ≤ 50000 := by
  rcases h with h | ⟨h1, h2, h3, h4⟩
  · omega
  · refine ⟨?_, h3, by omega⟩
    by_cases c : k ≤ 32
    · exact c
    · have a : 2 ^ 33 ≤ 2 ^ k := Nat.pow_le_pow_right (by decide) (by omega)
      have b : 1 * 1 * 2 ^ k ≤ x * y * 2 ^ k := Nat.mul_le_mul_right _ (Nat.mul_le_mul (by omega) (by omega))
      omega
theorem gdI_s {x y k : Nat} (h : gdI x y k) (hy : y ≠ 0) : gdI y (x % y) (k + 1) := by
  have m := Nat.mod_lt x (show 0 < y by omega)
  rcases h with ⟨h1, h2, h3⟩ | ⟨h1, h2, h3, h4⟩
  · refine Or.inr ⟨by omega, by omega, h3, ?_⟩
    subst h1
    have a : y * (x % y) ≤ 50000 * 50000 := Nat.mul_le_mul h3 (by omega)
    omega
  · refine Or.inr ⟨by omega, by omega, by omega, ?_⟩
    have e : x % y + y * (x / y) = x := Nat.mod_add_div x y
    have d : 1 ≤ x / y := Nat.div_pos h2 (by omega)
    have f : y * 1 ≤ y * (x / y) := Nat.mul_le_mul_left _ d
    have g : 2 * (x % y) ≤ x := by omega
    have s : y * (x % y) * 2 ^ (k + 1) = y * 2 ^ k * (2 * (x % y)) := by rw [Nat.pow_succ]; grind
    have t : y * 2 ^ k * (2 * (x % y)) ≤ y * 2 ^ k * x := Nat.mul_le_mul_left _ g
    have w : y * 2 ^ k * x = x * y * 2 ^ k := by grind
    omega
set_option maxRecDepth 100000 in
set_option maxHeartbeats 4000000 in
theorem l_X8_greatestDivisor {X : VX} {Q : Nat → Nat} {MI ML : ZM} (K : VK X cX8_greatestDivisor RX8 6 (some .int) 0 0 0 0) (a b : Nat) (a9 b9 : Int) (E : VE X 0 0 110 Q (zq Q (zI fun r M L => M = MI ∧ L = ML ∧ r = ((Nat.gcd a b : Nat) : Int)))) : ∀ (n x y k : Nat), y < n → gdI x y k → k ≤ 33 → Nat.gcd x y = Nat.gcd a b → V X (0, 0) 110 Q z_rf MI ML 7 [(4, .int (iI (k : Int))), (3, .int (iI (y : Int))), (2, .int (iI (x : Int))), (0, .int (iI a9)), (1, .int (iI b9))] [] := by
  intro n
  induction n with
  | zero => intro x y k hn; exact absurd hn (by omega)
  | succ n ih =>
    intro x y k hn G hk hg
    refine v_iload K 0 dX8_greatestDivisor_7 rfl ?_
    refine v_bipush K dX8_greatestDivisor_9 (by decide) ?_
    refine v_icmp_ge K 34 ⟨by omega, by omega⟩ ⟨by omega, by omega⟩ dX8_greatestDivisor_11 (by decide) (fun h11 => ?_) (fun h11 => ?_)
    · exact absurd h11 (by omega)
    · have y9 : y ≤ 50000 ∧ x ≤ 50000 := by rcases G with q | q <;> omega
      refine v_iload_n K 1 dX8_greatestDivisor_14 rfl rfl ?_
      refine v_if_eq K 34 ⟨by omega, by omega⟩ dX8_greatestDivisor_15 (by decide) (fun h15 => ?_) (fun h15 => ?_)
      · obtain rfl : y = 0 := (by omega)
        rw [Nat.gcd_zero_right] at hg
        refine v_iload_n K 2 dX8_greatestDivisor_34 rfl rfl ?_
        exact v_ri K E dX8_greatestDivisor_35 ⟨rfl, rfl, by rw [hg]⟩
      · have y0 : 0 < y := by omega
        have gk := gdI_k G (by omega)
        refine v_iload_n K 2 dX8_greatestDivisor_18 rfl rfl ?_
        refine v_iload_n K 1 dX8_greatestDivisor_19 rfl rfl ?_
        refine v_irem K (((x % y : Nat) : Int)) (iI_ne ⟨by omega, by omega⟩ (by omega)) (iI_rem (by omega) y0 (by omega)) dX8_greatestDivisor_20 ?_
        refine v_istore K (fun q9 => [(5, .int (iI q9)), (4, .int (iI (k : Int))), (3, .int (iI (y : Int))), (2, .int (iI (x : Int))), (0, .int (iI a9)), (1, .int (iI b9))]) dX8_greatestDivisor_21 (by decide) (fun _ => rfl) (fun z8 hz8 => ?_)
        refine v_iload_n K 2 dX8_greatestDivisor_23 rfl rfl ?_
        refine v_istore_n K (fun q9 => [(2, .int (iI q9)), (5, .int (iI z8)), (4, .int (iI (k : Int))), (3, .int (iI (y : Int))), (0, .int (iI a9)), (1, .int (iI b9))]) dX8_greatestDivisor_24 rfl (by decide) (fun _ => rfl) (fun x2 hx2 => ?_)
        refine v_iload K 1 dX8_greatestDivisor_25 rfl ?_
        refine v_istore_n K (fun q9 => [(3, .int (iI q9)), (2, .int (iI x2)), (5, .int (iI z8)), (4, .int (iI (k : Int))), (0, .int (iI a9)), (1, .int (iI b9))]) dX8_greatestDivisor_27 rfl (by decide) (fun _ => rfl) (fun y2 hy2 => ?_)
        refine v_iinc K 3 (fun q9 => [(4, .int (iI q9)), (3, .int (iI y2)), (2, .int (iI x2)), (5, .int (iI z8)), (0, .int (iI a9)), (1, .int (iI b9))]) dX8_greatestDivisor_28 rfl (by decide) (fun _ => rfl) (fun w hw => ?_)
        refine v_goto K 7 dX8_greatestDivisor_31 (by decide) ?_
        subst hx2
        have em : x % y < y := Nat.mod_lt _ y0
        obtain rfl : y2 = ((x % y : Nat) : Int) := by rw [hy2, hz8]
        obtain rfl : w = ((k + 1 : Nat) : Int) := by omega
        refine v_sub K [0, 1, 2, 4, 5] rfl ?_
        exact ih y (x % y) (k + 1) (by omega) (gdI_s G (by omega)) (by omega) (by rw [← hg, Nat.gcd_comm y, ← Nat.gcd_rec, Nat.gcd_comm])
set_option maxRecDepth 100000 in
set_option maxHeartbeats 4000000 in
theorem c_X8_greatestDivisor {l : Launch} {D : va_G} {Z : ZC} {Q : Nat → Nat} {MI ML : ZM} (a b : Nat) (ha : a ≤ 50000) (hb : b ≤ 50000) (a9 b9 : Int) (ha9 : a9 = a) (hb9 : b9 = b) : C_X8_greatestDivisor l D Z Q [.int (iI a9), .int (iI b9)] MI ML (zI fun r M L => M = MI ∧ L = ML ∧ r = ((Nat.gcd a b : Nat) : Int)) := by
  refine CM.of (by decide +kernel) (Nat.le_of_ble_eq_true rfl) ?_
  intro X K E _ _ _ _
  show V X (0, 0) 110 Q z_rf MI ML 0 [(0, .int (iI a9)), (1, .int (iI b9))] []
  refine v_iload_n K 0 dX8_greatestDivisor_0 rfl rfl ?_
  refine v_istore_n K (fun q9 => [(2, .int (iI q9)), (0, .int (iI a9)), (1, .int (iI b9))]) dX8_greatestDivisor_1 rfl (by decide) (fun _ => rfl) (fun x8 hx8 => ?_)
  refine v_iload_n K 2 dX8_greatestDivisor_2 rfl rfl ?_
  refine v_istore_n K (fun q9 => [(3, .int (iI q9)), (2, .int (iI x8)), (0, .int (iI a9)), (1, .int (iI b9))]) dX8_greatestDivisor_3 rfl (by decide) (fun _ => rfl) (fun y8 hy8 => ?_)
  refine v_iconst K dX8_greatestDivisor_4 ?_
  refine v_istore K (fun q9 => [(4, .int (iI q9)), (3, .int (iI y8)), (2, .int (iI x8)), (0, .int (iI a9)), (1, .int (iI b9))]) dX8_greatestDivisor_5 (by decide) (fun _ => rfl) (fun k8 hk8 => ?_)
  obtain rfl : x8 = (a : Int) := by omega
  obtain rfl : y8 = (b : Int) := by omega
  subst hk8
  exact l_X8_greatestDivisor K a b a9 b9 E (b + 1) a b 0 (by omega) (Or.inl ⟨rfl, ha, hb⟩) (by omega) rfl
/-- the shares of a mix, as fractions in least terms -/
theorem mix_fr {T : Nat → Nat → Int} {N : Nat} (h5 : N ≤ 5) {z : Nat → Int} (hz : mxI T N z) (hb : ∀ q, q < N → 0 ≤ z q ∧ z q ≤ 10000) : mixR T N (fun q => (((z q).toNat / Nat.gcd (z q).toNat (sumK z N).toNat : Nat) : Int)) (fun q => (((sumK z N).toNat / Nat.gcd (z q).toNat (sumK z N).toNat : Nat) : Int)) := by
  refine ⟨z, hz, fun q hq => ?_⟩
  have S := hz.1.2
  have bs := sumK_bd (f := z) (B := 10000) N (fun i hi => by have := hb i hi; omega)
  have z0 := hb q hq
  obtain ⟨a, ha⟩ : ∃ a, a = (z q).toNat := ⟨_, rfl⟩
  obtain ⟨b, hb'⟩ : ∃ b, b = (sumK z N).toNat := ⟨_, rfl⟩
  have ea : z q = (a : Int) := by omega
  have eb : sumK z N = (b : Int) := by omega
  dsimp only
  rw [← ha, ← hb', ea, eb]
  show (0 : Int) < ((b / Nat.gcd a b : Nat) : Int) ∧ ((b / Nat.gcd a b : Nat) : Int) ≤ 50000 ∧ -50000 ≤ ((a / Nat.gcd a b : Nat) : Int) ∧ ((a / Nat.gcd a b : Nat) : Int) ≤ 50000 ∧ Int.gcd ((a / Nat.gcd a b : Nat) : Int) ((b / Nat.gcd a b : Nat) : Int) = 1 ∧ ((b / Nat.gcd a b : Nat) : Int) * (a : Int) = ((a / Nat.gcd a b : Nat) : Int) * (b : Int)
  have g0 : 0 < Nat.gcd a b := Nat.gcd_pos_of_pos_right _ (by omega)
  have da := Nat.div_mul_cancel (Nat.gcd_dvd_left a b)
  have db := Nat.div_mul_cancel (Nat.gcd_dvd_right a b)
  have la := Nat.div_le_self a (Nat.gcd a b)
  have lb := Nat.div_le_self b (Nat.gcd a b)
  have pb : 0 < b / Nat.gcd a b := Nat.div_pos (Nat.le_of_dvd (by omega) (Nat.gcd_dvd_right a b)) g0
  have n0 := Int.natCast_nonneg (a / Nat.gcd a b)
  have n1 := Int.ofNat_le.mpr la
  have n2 := Int.ofNat_le.mpr lb
  have n3 := Int.ofNat_lt.mpr pb
  refine ⟨n3, Int.le_trans n2 (by omega), Int.le_trans (by decide) n0, Int.le_trans n1 (by omega), ?_, ?_⟩
  · first
      | exact Nat.coprime_div_gcd_div_gcd g0
      | exact (Nat.gcd_div (Nat.gcd_dvd_left a b) (Nat.gcd_dvd_right a b)).trans (Nat.div_self g0)
  · have : b / Nat.gcd a b * a = a / Nat.gcd a b * b := by
      obtain ⟨g, hg⟩ : ∃ g, g = Nat.gcd a b := ⟨_, rfl⟩
      rw [← hg] at da db ⊢
      obtain ⟨u, hu⟩ : ∃ u, u = a / g := ⟨_, rfl⟩
      obtain ⟨v, hv⟩ : ∃ v, v = b / g := ⟨_, rfl⟩
      rw [← hu] at da ⊢
      rw [← hv] at db ⊢
      rw [← da, ← db]; grind
    exact_mod_cast this
set_option maxRecDepth 100000 in
set_option maxHeartbeats 4000000 in
theorem c_X8_share {l : Launch} {D : va_G} {Z : ZC} {Q : Nat → Nat} {MI ML : ZM} (hM : cOk MI) (hF : cFix MI) (hK : kn MI) (hX : mK MI) (d p : Int) (hd : rg d) (hp : rg p) : C_X8_share l D Z Q [.ref (Q 0), .int (iI d), .int (iI p)] MI ML (zL fun r M L => L = ML ∧ mF MI M ∧ cFix M ∧ kn M ∧ mK M ∧ ((¬ (0 ≤ d ∧ d < MI 0 8 ∧ 0 ≤ p ∧ p ≤ 1) ∧ r = -2) ∨ ((0 ≤ d ∧ d < MI 0 8 ∧ 0 ≤ p ∧ p ≤ 1) ∧ ∃ a b, mixR (cTab MI) (MI 0 8).toNat a b ∧ r = if p = 0 then a d.toNat else b d.toNat))) := by
  refine CM.of (by decide +kernel) (Nat.le_of_ble_eq_true rfl) ?_
  intro X K E _ _ _ _
  show V X (0, 0) 110 Q z_rf MI ML 0 [(0, .ref (Q 0)), (1, .int (iI d)), (2, .int (iI p))] []
  have u4 := hM.2.1
  refine v_aload_n K 0 dX8_share_0 rfl rfl ?_
  refine v_iload_n K 1 dX8_share_1 rfl rfl ?_
  refine v_cVi K (c_X8_isNoDeck hM _ hd) rfl fc_X8_85 wm_X8_isNoDeck ws_X8_isNoDeck (by decide) 8 rfl (by decide) rfl rfl (by decide) (Nat.le_of_ble_eq_true rfl) dX8_share_2 (fun r2 M2 L2 h2 => ?_)
  obtain ⟨hm2, hl2, hr2⟩ := h2
  subst M2 L2
  refine v_if_ne K 17 ⟨by omega, by omega⟩ dX8_share_5 (by decide) (fun h5 => ?_) (fun h5 => ?_)
  · refine v_ldc2 K (-2) ck_X8_145 rfl dX8_share_17 ?_
    exact v_rl K E dX8_share_20 ⟨rfl, mF.rf _, hF, hK, hX, Or.inl ⟨by omega, rfl⟩⟩
  · refine v_iload_n K 2 dX8_share_8 rfl rfl ?_
    refine v_iconst K dX8_share_9 ?_
    refine v_iconst K dX8_share_10 ?_
    refine v_cSi K (c_X8_isOutside _ _ _ hp rg_0 ⟨by omega, by omega⟩) rfl fc_X8_64 wt_X8_isOutside rfl (by decide) (Nat.le_of_ble_eq_true rfl) dX8_share_11 (fun r11 M11 L11 h11 => ?_)
    obtain ⟨hm11, hl11, hr11⟩ := h11
    subst M11 L11
    refine v_if_eq K 21 ⟨by omega, by omega⟩ dX8_share_14 (by decide) (fun h14 => ?_) (fun h14 => ?_)
    · refine v_aload_n K 0 dX8_share_21 rfl rfl ?_
      refine v_cVv K (c_X8_learnMix hM hF hK hX (by omega)) rfl fc_X8_147 wm_X8_learnMix ws_X8_learnMix (by decide) 8 rfl (by decide) rfl rfl (by decide) (Nat.le_of_ble_eq_true rfl) dX8_share_22 (fun M22 L22 h22 => ?_)
      obtain ⟨hl22, G1, G2, G3, G4, G5⟩ := h22
      subst L22
      have co := G1.co
      have e8 : M22 0 8 = MI 0 8 := co 0 8 (by decide) (by decide)
      have G6 := G5
      unfold cMx at G5
      rw [e8] at G5
      obtain ⟨g5, g1, gm, gb⟩ := G5
      have gm : mxI (cTab MI) (MI 0 8).toNat (M22 28) := mxI_cg (fun i j hi hj => co.tab (by omega) (by omega)) gm
      have gS := gm.1.2
      have gs := sumK_bd (f := M22 28) (B := 10000) (MI 0 8).toNat (fun i hi => by have := gb i hi; omega)
      have gd := gb d.toNat (by omega)
      obtain ⟨a, ha⟩ : ∃ a, a = (M22 28 d.toNat).toNat := ⟨_, rfl⟩
      obtain ⟨b, hb⟩ : ∃ b, b = (sumK (M22 28) (MI 0 8).toNat).toNat := ⟨_, rfl⟩
      have ea : M22 28 d.toNat = (a : Int) := by omega
      have eb : M22 27 1 = (b : Int) := by rw [g1]; omega
      have g0 : 0 < Nat.gcd a b := Nat.gcd_pos_of_pos_right _ (by omega)
      have gl : Nat.gcd a b ≤ b := Nat.le_of_dvd (by omega) (Nat.gcd_dvd_right a b)
      have la := Nat.div_le_self a (Nat.gcd a b)
      have lb := Nat.div_le_self b (Nat.gcd a b)
      refine v_aload_n K 0 dX8_share_25 rfl rfl ?_
      refine v_getr K ff_X8_35 (by decide) rfl rfl rfl dX8_share_26 ?_
      refine v_getr K ff_X8_150 (by decide) rfl rfl rfl dX8_share_29 ?_
      refine v_getr K ff_X8_154 (by decide) rfl rfl rfl dX8_share_32 ?_
      refine v_iload_n K 1 dX8_share_35 rfl rfl ?_
      refine v_iald K (d.toNat) (by decide) rfl (by omega) (by show _ < 5; omega) dX8_share_36 ?_
      refine v_eqi ((a : Int)) (ea) ?_
      refine v_istore_n K (fun q9 => [(3, .int (iI q9)), (0, .ref (Q 0)), (1, .int (iI d)), (2, .int (iI p))]) dX8_share_37 rfl (by decide) (fun _ => rfl) (fun x hx => ?_)
      subst hx
      refine v_aload_n K 1 dX8_share_38 rfl rfl ?_
      refine v_getr K ff_X8_35 (by decide) rfl rfl rfl dX8_share_39 ?_
      refine v_getr K ff_X8_150 (by decide) rfl rfl rfl dX8_share_42 ?_
      refine v_geti K ff_X8_159 (by decide) rfl rfl dX8_share_45 ?_
      refine v_eqi ((b : Int)) (eb) ?_
      refine v_istore K (fun q9 => [(4, .int (iI q9)), (3, .int (iI (a : Int))), (0, .ref (Q 0)), (1, .int (iI d)), (2, .int (iI p))]) dX8_share_48 (by decide) (fun _ => rfl) (fun y hy => ?_)
      subst hy
      refine v_iload_n K 1 dX8_share_50 rfl rfl ?_
      refine v_iload K 0 dX8_share_51 rfl ?_
      refine v_cSi K (c_X8_greatestDivisor a b (by omega) (by omega) _ _ rfl rfl) rfl fc_X8_162 wt_X8_greatestDivisor rfl (by decide) (Nat.le_of_ble_eq_true rfl) dX8_share_53 (fun r53 M53 L53 h53 => ?_)
      obtain ⟨hm53, hl53, hr53⟩ := h53
      subst M53 L53
      refine v_istore K (fun q9 => [(5, .int (iI q9)), (4, .int (iI (b : Int))), (3, .int (iI (a : Int))), (0, .ref (Q 0)), (1, .int (iI d)), (2, .int (iI p))]) dX8_share_56 (by decide) (fun _ => rfl) (fun g hg => ?_)
      obtain rfl : g = ((Nat.gcd a b : Nat) : Int) := by omega
      refine v_iload K 0 dX8_share_58 rfl ?_
      refine v_if_ne K 67 ⟨by omega, by omega⟩ dX8_share_60 (by decide) (fun h60 => ?_) (fun h60 => ?_)
      · refine v_iload_n K 5 dX8_share_67 rfl rfl ?_
        refine v_if_ne K 75 ⟨by omega, by omega⟩ dX8_share_68 (by decide) (fun h68 => ?_) (fun h68 => ?_)
        · refine v_iload K 1 dX8_share_75 rfl ?_
          refine v_iload K 0 dX8_share_77 rfl ?_
          refine v_idiv K _ (iI_ne ⟨by omega, by omega⟩ (by omega)) (iI_div (by omega) g0 (by omega)) dX8_share_79 ?_
          refine v_i2l K (by first | exact rgN (Nat.le_trans la (by omega)) | exact rgN (Nat.le_trans lb (by omega))) dX8_share_80 ?_
          exact v_rl K E dX8_share_81 (by
          refine ⟨rfl, G1, G2, Or.inr G3, Or.inr ⟨G4, G6⟩, Or.inr ⟨by omega, _, _, mix_fr (by omega) gm gb, ?_⟩⟩
          rw [← hb]
          first
            | (rw [if_pos (by omega), ← ha])
            | (rw [if_neg (by omega), ← ha]))
        · refine v_iload_n K 2 dX8_share_71 rfl rfl ?_
          refine v_goto K 77 dX8_share_72 (by decide) ?_
          refine v_iload K 0 dX8_share_77 rfl ?_
          refine v_idiv K _ (iI_ne ⟨by omega, by omega⟩ (by omega)) (iI_div (by omega) g0 (by omega)) dX8_share_79 ?_
          refine v_i2l K (by first | exact rgN (Nat.le_trans la (by omega)) | exact rgN (Nat.le_trans lb (by omega))) dX8_share_80 ?_
          exact v_rl K E dX8_share_81 (by
          refine ⟨rfl, G1, G2, Or.inr G3, Or.inr ⟨G4, G6⟩, Or.inr ⟨by omega, _, _, mix_fr (by omega) gm gb, ?_⟩⟩
          rw [← hb]
          first
            | (rw [if_pos (by omega), ← ha])
            | (rw [if_neg (by omega), ← ha]))
      · refine v_ldc2 K (-2) ck_X8_145 rfl dX8_share_63 ?_
        exact v_rl K E dX8_share_66 (by omega)
    · refine v_ldc2 K (-2) ck_X8_145 rfl dX8_share_17 ?_
      exact v_rl K E dX8_share_20 ⟨rfl, mF.rf _, hF, hK, hX, Or.inl ⟨by omega, rfl⟩⟩
set_option maxRecDepth 100000 in
set_option maxHeartbeats 4000000 in
theorem l_X8_live {X : VX} {Q : Nat → Nat} {MI ML : ZM} (K : VK X cX8_live RX8 3 (some .int) 6 142 0 0) (hM : cOk MI) (hp : 0 < MI 0 8) (M : ZM) (G : mF MI M ∧ cFix M ∧ kn M ∧ mK M) (e8 : M 0 8 = MI 0 8) (gm : mxI (cTab MI) (MI 0 8).toNat (M 28)) (gb : ∀ q, q < (MI 0 8).toNat → 0 ≤ M 28 q ∧ M 28 q ≤ 10000) (E : VE X 0 0 110 Q (zq Q (zI fun r M L => L = ML ∧ mF MI M ∧ cFix M ∧ kn M ∧ mK M ∧ ((MI 0 8 = 0 ∧ r = -3) ∨ (0 < MI 0 8 ∧ ∃ z, mxI (cTab MI) (MI 0 8).toNat z ∧ r = sumK (fun q => if 0 < z q then 1 else 0) (MI 0 8).toNat))))) : ∀ (n k : Nat) (x : Int), x = sumK (fun q => if 0 < M 28 q then 1 else 0) k → (k : Int) ≤ MI 0 8 → MI 0 8 < k + n → V X (0, 0) 110 Q z_rf M ML 18 [(2, .int (iI (k : Int))), (1, .int (iI x)), (0, .ref (Q 0))] [] := by
  have u4 := hM.2.1
  intro n
  induction n with
  | zero => intro k x hx hk hn; exact absurd hn (by omega)
  | succ n ih =>
    intro k x hx hk hn
    refine v_iload_n K 0 dX8_live_18 rfl rfl ?_
    refine v_aload_n K 2 dX8_live_19 rfl rfl ?_
    refine v_geti K ff_X8_82 (by decide) rfl rfl dX8_live_20 ?_
    refine v_eqi (MI 0 8) (e8) ?_
    refine v_icmp_ge K 50 ⟨by omega, by omega⟩ ⟨by omega, by omega⟩ dX8_live_23 (by decide) (fun h23 => ?_) (fun h23 => ?_)
    · obtain rfl : k = (MI 0 8).toNat := (by omega)
      refine v_iload_n K 1 dX8_live_50 rfl rfl ?_
      exact v_ri K E dX8_live_51 ⟨rfl, G.1, G.2.1, G.2.2.1, G.2.2.2, Or.inr ⟨hp, _, gm, hx⟩⟩
    · have b9 := gb k (by omega)
      refine v_aload_n K 2 dX8_live_26 rfl rfl ?_
      refine v_getr K ff_X8_35 (by decide) rfl rfl rfl dX8_live_27 ?_
      refine v_getr K ff_X8_150 (by decide) rfl rfl rfl dX8_live_30 ?_
      refine v_getr K ff_X8_154 (by decide) rfl rfl rfl dX8_live_33 ?_
      refine v_iload_n K 0 dX8_live_36 rfl rfl ?_
      refine v_iald K (k) (by decide) rfl (by omega) (by show _ < 5; omega) dX8_live_37 ?_
      refine v_if_le K 44 ⟨by omega, by omega⟩ dX8_live_38 (by decide) (fun h38 => ?_) (fun h38 => ?_)
      · refine v_iinc K 0 (fun q9 => [(2, .int (iI q9)), (1, .int (iI x)), (0, .ref (Q 0))]) dX8_live_44 rfl (by decide) (fun _ => rfl) (fun w hw => ?_)
        refine v_goto K 18 dX8_live_47 (by decide) ?_
        obtain rfl : w = ((k + 1 : Nat) : Int) := by omega
        first | exact ih (k + 1) x2 (by simp only [sumK]; rw [if_pos (by omega)]; omega) (by omega) (by omega) | exact ih (k + 1) x (by simp only [sumK]; rw [if_neg (by omega)]; omega) (by omega) (by omega)
      · refine v_iinc K 1 (fun q9 => [(1, .int (iI q9)), (2, .int (iI (k : Int))), (0, .ref (Q 0))]) dX8_live_41 rfl (by decide) (fun _ => rfl) (fun x2 hx2 => ?_)
        refine v_iinc K 1 (fun q9 => [(2, .int (iI q9)), (1, .int (iI x2)), (0, .ref (Q 0))]) dX8_live_44 rfl (by decide) (fun _ => rfl) (fun w hw => ?_)
        refine v_goto K 18 dX8_live_47 (by decide) ?_
        obtain rfl : w = ((k + 1 : Nat) : Int) := by omega
        first | exact ih (k + 1) x2 (by simp only [sumK]; rw [if_pos (by omega)]; omega) (by omega) (by omega) | exact ih (k + 1) x (by simp only [sumK]; rw [if_neg (by omega)]; omega) (by omega) (by omega)
set_option maxRecDepth 100000 in
set_option maxHeartbeats 4000000 in
theorem c_X8_live {l : Launch} {D : va_G} {Z : ZC} {Q : Nat → Nat} {MI ML : ZM} (hM : cOk MI) (hF : cFix MI) (hK : kn MI) (hX : mK MI) : C_X8_live l D Z Q [.ref (Q 0)] MI ML (zI fun r M L => L = ML ∧ mF MI M ∧ cFix M ∧ kn M ∧ mK M ∧ ((MI 0 8 = 0 ∧ r = -3) ∨ (0 < MI 0 8 ∧ ∃ z, mxI (cTab MI) (MI 0 8).toNat z ∧ r = sumK (fun q => if 0 < z q then 1 else 0) (MI 0 8).toNat))) := by
  refine CM.of (by decide +kernel) (Nat.le_of_ble_eq_true rfl) ?_
  intro X K E _ _ _ _
  show V X (0, 0) 110 Q z_rf MI ML 0 [(0, .ref (Q 0))] []
  have u4 := hM.2.1
  refine v_aload_n K 0 dX8_live_0 rfl rfl ?_
  refine v_geti K ff_X8_82 (by decide) rfl rfl dX8_live_1 ?_
  refine v_if_ne K 10 ⟨by omega, by omega⟩ dX8_live_4 (by decide) (fun h4 => ?_) (fun h4 => ?_)
  · refine v_aload_n K 0 dX8_live_10 rfl rfl ?_
    refine v_cVv K (c_X8_learnMix hM hF hK hX (by omega)) rfl fc_X8_147 wm_X8_learnMix ws_X8_learnMix (by decide) 8 rfl (by decide) rfl rfl (by decide) (Nat.le_of_ble_eq_true rfl) dX8_live_11 (fun M11 L11 h11 => ?_)
    obtain ⟨hl11, G1, G2, G3, G4, G5⟩ := h11
    subst L11
    have co := G1.co
    have e8 : M11 0 8 = MI 0 8 := co 0 8 (by decide) (by decide)
    have G6 := G5
    unfold cMx at G5
    rw [e8] at G5
    obtain ⟨g5, g1, gm, gb⟩ := G5
    have gm : mxI (cTab MI) (MI 0 8).toNat (M11 28) := mxI_cg (fun i j hi hj => co.tab (by omega) (by omega)) gm
    have gS := gm.1.2
    have gs := sumK_bd (f := M11 28) (B := 10000) (MI 0 8).toNat (fun i hi => by have := gb i hi; omega)
    refine v_iconst K dX8_live_14 ?_
    refine v_istore_n K (fun q9 => [(1, .int (iI q9)), (0, .ref (Q 0))]) dX8_live_15 rfl (by decide) (fun _ => rfl) (fun x hx => ?_)
    refine v_iconst K dX8_live_16 ?_
    refine v_istore_n K (fun q9 => [(2, .int (iI q9)), (1, .int (iI x)), (0, .ref (Q 0))]) dX8_live_17 rfl (by decide) (fun _ => rfl) (fun k0 hk0 => ?_)
    subst hk0
    exact l_X8_live K hM (by omega) M11 ⟨G1, G2, Or.inr G3, Or.inr ⟨G4, G6⟩⟩ e8 gm gb E 6 0 x hx (by omega) (by omega)
  · refine v_bipush K dX8_live_7 (by decide) ?_
    exact v_ri K E dX8_live_9 ⟨rfl, mF.rf _, hF, hK, hX, Or.inl ⟨by omega, rfl⟩⟩
