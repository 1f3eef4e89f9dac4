theorem z_beyond {k : Nat} (h : 110 ≤ k) : z_kd k = 99 := by
  unfold z_kd
  rw [List.getD_eq_getElem?_getD, List.getElem?_eq_none (by have : z_sh.length = 110 := rfl; omega)]; rfl
theorem zc0 : ∀ k, z_kd k = 0 → z_ln k = 4 := by
  intro k hk
  by_cases h : k < 110
  · have h1 : ∀ k, k < 110 → z_kd k = 0 → z_ln k = 4 := by decide +kernel
    exact h1 k h hk
  · rw [z_beyond (by omega)] at hk; omega
theorem zc1 : ∀ k, z_kd k = 1 → z_ln k = 3 := by
  intro k hk
  by_cases h : k < 110
  · have h1 : ∀ k, k < 110 → z_kd k = 1 → z_ln k = 3 := by decide +kernel
    exact h1 k h hk
  · rw [z_beyond (by omega)] at hk; omega
theorem zc2 : ∀ k, z_kd k = 2 → z_ln k = 2 := by
  intro k hk
  by_cases h : k < 110
  · have h1 : ∀ k, k < 110 → z_kd k = 2 → z_ln k = 2 := by decide +kernel
    exact h1 k h hk
  · rw [z_beyond (by omega)] at hk; omega
theorem zc3 : ∀ k, z_kd k = 3 → z_ln k = 4 := by
  intro k hk
  by_cases h : k < 110
  · have h1 : ∀ k, k < 110 → z_kd k = 3 → z_ln k = 4 := by decide +kernel
    exact h1 k h hk
  · rw [z_beyond (by omega)] at hk; omega
theorem zc4 : ∀ k, z_kd k = 4 → z_ln k = 6 := by
  intro k hk
  by_cases h : k < 110
  · have h1 : ∀ k, k < 110 → z_kd k = 4 → z_ln k = 6 := by decide +kernel
    exact h1 k h hk
  · rw [z_beyond (by omega)] at hk; omega
theorem zc5 : ∀ k, z_kd k = 5 → z_ln k = 6 := by
  intro k hk
  by_cases h : k < 110
  · have h1 : ∀ k, k < 110 → z_kd k = 5 → z_ln k = 6 := by decide +kernel
    exact h1 k h hk
  · rw [z_beyond (by omega)] at hk; omega
theorem zc6 : ∀ k, z_kd k = 6 → z_ln k = 2 := by
  intro k hk
  by_cases h : k < 110
  · have h1 : ∀ k, k < 110 → z_kd k = 6 → z_ln k = 2 := by decide +kernel
    exact h1 k h hk
  · rw [z_beyond (by omega)] at hk; omega
theorem zc7 : ∀ k, z_kd k = 7 → z_ln k = 4 := by
  intro k hk
  by_cases h : k < 110
  · have h1 : ∀ k, k < 110 → z_kd k = 7 → z_ln k = 4 := by decide +kernel
    exact h1 k h hk
  · rw [z_beyond (by omega)] at hk; omega
theorem zc8 : ∀ k, z_kd k = 8 → z_ln k = 12 := by
  intro k hk
  by_cases h : k < 110
  · have h1 : ∀ k, k < 110 → z_kd k = 8 → z_ln k = 12 := by decide +kernel
    exact h1 k h hk
  · rw [z_beyond (by omega)] at hk; omega
theorem zc9 : ∀ k, z_kd k = 9 → z_ln k = 26 := by
  intro k hk
  by_cases h : k < 110
  · have h1 : ∀ k, k < 110 → z_kd k = 9 → z_ln k = 26 := by decide +kernel
    exact h1 k h hk
  · rw [z_beyond (by omega)] at hk; omega
theorem ff_X0_9 : FF RX0 9 0 0 := ⟨_, _, _, rfl, by decide, by decide, zc0, us0, fl_X0_9⟩
theorem fp_X0_9 : FP RX0 9 0 0 true (.array .int) := ⟨_, _, _, tyX0, rfl, by decide, by decide, zc0, us0, fl_X0_9, tyX0_ok, nmX0, rfl, (fun _ => rfl), by decide +kernel⟩
theorem ff_X7_43 : FF RX7 43 0 0 := ⟨_, _, _, rfl, by decide, by decide, zc0, us0, fl_X7_43⟩
theorem ff_X0_15 : FF RX0 15 0 1 := ⟨_, _, _, rfl, by decide, by decide, zc0, us0, fl_X0_15⟩
theorem fp_X0_15 : FP RX0 15 0 1 true (.array .int) := ⟨_, _, _, tyX0, rfl, by decide, by decide, zc0, us0, fl_X0_15, tyX0_ok, nmX0, rfl, (fun _ => rfl), by decide +kernel⟩
theorem ff_X5_57 : FF RX5 57 0 1 := ⟨_, _, _, rfl, by decide, by decide, zc0, us0, fl_X5_57⟩
theorem ff_X0_18 : FF RX0 18 0 2 := ⟨_, _, _, rfl, by decide, by decide, zc0, us0, fl_X0_18⟩
theorem fp_X0_18 : FP RX0 18 0 2 true (.array .int) := ⟨_, _, _, tyX0, rfl, by decide, by decide, zc0, us0, fl_X0_18, tyX0_ok, nmX0, rfl, (fun _ => rfl), by decide +kernel⟩
theorem ff_X8_76 : FF RX8 76 0 2 := ⟨_, _, _, rfl, by decide, by decide, zc0, us0, fl_X8_76⟩
theorem ff_X7_48 : FF RX7 48 0 2 := ⟨_, _, _, rfl, by decide, by decide, zc0, us0, fl_X7_48⟩
theorem ff_X0_21 : FF RX0 21 0 3 := ⟨_, _, _, rfl, by decide, by decide, zc0, us0, fl_X0_21⟩
theorem fp_X0_21 : FP RX0 21 0 3 false .int := ⟨_, _, _, tyX0, rfl, by decide, by decide, zc0, us0, fl_X0_21, tyX0_ok, nmX0, rfl, (fun h => by cases h), by decide +kernel⟩
theorem ff_X8_176 : FF RX8 176 0 3 := ⟨_, _, _, rfl, by decide, by decide, zc0, us0, fl_X8_176⟩
theorem fp_X8_176 : FP RX8 176 0 3 false .int := ⟨_, _, _, tyX0, rfl, by decide, by decide, zc0, us0, fl_X8_176, tyX0_ok, nmX0, rfl, (fun h => by cases h), by decide +kernel⟩
theorem ff_X2_9 : FF RX2 9 2 0 := ⟨_, _, _, rfl, by decide, by decide, zc2, us2, fl_X2_9⟩
theorem fp_X2_9 : FP RX2 9 2 0 true (.array .int) := ⟨_, _, _, tyX2, rfl, by decide, by decide, zc2, us2, fl_X2_9, tyX2_ok, nmX2, rfl, (fun _ => rfl), by decide +kernel⟩
theorem ff_X5_50 : FF RX5 50 2 0 := ⟨_, _, _, rfl, by decide, by decide, zc2, us2, fl_X5_50⟩
theorem ff_X8_103 : FF RX8 103 2 0 := ⟨_, _, _, rfl, by decide, by decide, zc2, us2, fl_X8_103⟩
theorem ff_X2_15 : FF RX2 15 2 1 := ⟨_, _, _, rfl, by decide, by decide, zc2, us2, fl_X2_15⟩
theorem fp_X2_15 : FP RX2 15 2 1 false .int := ⟨_, _, _, tyX2, rfl, by decide, by decide, zc2, us2, fl_X2_15, tyX2_ok, nmX2, rfl, (fun h => by cases h), by decide +kernel⟩
theorem ff_X5_45 : FF RX5 45 2 1 := ⟨_, _, _, rfl, by decide, by decide, zc2, us2, fl_X5_45⟩
theorem fp_X5_45 : FP RX5 45 2 1 false .int := ⟨_, _, _, tyX2, rfl, by decide, by decide, zc2, us2, fl_X5_45, tyX2_ok, nmX2, rfl, (fun h => by cases h), by decide +kernel⟩
theorem ff_X8_185 : FF RX8 185 2 1 := ⟨_, _, _, rfl, by decide, by decide, zc2, us2, fl_X8_185⟩
theorem fp_X8_185 : FP RX8 185 2 1 false .int := ⟨_, _, _, tyX2, rfl, by decide, by decide, zc2, us2, fl_X8_185, tyX2_ok, nmX2, rfl, (fun h => by cases h), by decide +kernel⟩
theorem ff_X7_9 : FF RX7 9 7 0 := ⟨_, _, _, rfl, by decide, by decide, zc7, us7, fl_X7_9⟩
theorem fp_X7_9 : FP RX7 9 7 0 false .int := ⟨_, _, _, tyX7, rfl, by decide, by decide, zc7, us7, fl_X7_9, tyX7_ok, nmX7, rfl, (fun h => by cases h), by decide +kernel⟩
theorem ff_X3_37 : FF RX3 37 7 0 := ⟨_, _, _, rfl, by decide, by decide, zc7, us7, fl_X3_37⟩
theorem fp_X3_37 : FP RX3 37 7 0 false .int := ⟨_, _, _, tyX7, rfl, by decide, by decide, zc7, us7, fl_X3_37, tyX7_ok, nmX7, rfl, (fun h => by cases h), by decide +kernel⟩
theorem ff_X8_125 : FF RX8 125 7 0 := ⟨_, _, _, rfl, by decide, by decide, zc7, us7, fl_X8_125⟩
theorem fp_X8_125 : FP RX8 125 7 0 false .int := ⟨_, _, _, tyX7, rfl, by decide, by decide, zc7, us7, fl_X8_125, tyX7_ok, nmX7, rfl, (fun h => by cases h), by decide +kernel⟩
theorem ff_X7_15 : FF RX7 15 7 1 := ⟨_, _, _, rfl, by decide, by decide, zc7, us7, fl_X7_15⟩
theorem fp_X7_15 : FP RX7 15 7 1 false .int := ⟨_, _, _, tyX7, rfl, by decide, by decide, zc7, us7, fl_X7_15, tyX7_ok, nmX7, rfl, (fun h => by cases h), by decide +kernel⟩
theorem ff_X8_133 : FF RX8 133 7 1 := ⟨_, _, _, rfl, by decide, by decide, zc7, us7, fl_X8_133⟩
theorem fp_X8_133 : FP RX8 133 7 1 false .int := ⟨_, _, _, tyX7, rfl, by decide, by decide, zc7, us7, fl_X8_133, tyX7_ok, nmX7, rfl, (fun h => by cases h), by decide +kernel⟩
theorem ff_X7_18 : FF RX7 18 7 2 := ⟨_, _, _, rfl, by decide, by decide, zc7, us7, fl_X7_18⟩
theorem fp_X7_18 : FP RX7 18 7 2 false .int := ⟨_, _, _, tyX7, rfl, by decide, by decide, zc7, us7, fl_X7_18, tyX7_ok, nmX7, rfl, (fun h => by cases h), by decide +kernel⟩
theorem ff_X7_21 : FF RX7 21 7 3 := ⟨_, _, _, rfl, by decide, by decide, zc7, us7, fl_X7_21⟩
theorem fp_X7_21 : FP RX7 21 7 3 false .int := ⟨_, _, _, tyX7, rfl, by decide, by decide, zc7, us7, fl_X7_21, tyX7_ok, nmX7, rfl, (fun h => by cases h), by decide +kernel⟩
theorem ff_X3_12 : FF RX3 12 3 0 := ⟨_, _, _, rfl, by decide, by decide, zc3, us3, fl_X3_12⟩
theorem fp_X3_12 : FP RX3 12 3 0 true (.object "DeckBalance$Side") := ⟨_, _, _, tyX3, rfl, by decide, by decide, zc3, us3, fl_X3_12, tyX3_ok, nmX3, rfl, (fun _ => rfl), by decide +kernel⟩
theorem ff_X8_121 : FF RX8 121 3 0 := ⟨_, _, _, rfl, by decide, by decide, zc3, us3, fl_X8_121⟩
theorem ff_X3_18 : FF RX3 18 3 1 := ⟨_, _, _, rfl, by decide, by decide, zc3, us3, fl_X3_18⟩
theorem fp_X3_18 : FP RX3 18 3 1 true (.object "DeckBalance$Side") := ⟨_, _, _, tyX3, rfl, by decide, by decide, zc3, us3, fl_X3_18, tyX3_ok, nmX3, rfl, (fun _ => rfl), by decide +kernel⟩
theorem ff_X8_130 : FF RX8 130 3 1 := ⟨_, _, _, rfl, by decide, by decide, zc3, us3, fl_X8_130⟩
theorem ff_X3_29 : FF RX3 29 3 2 := ⟨_, _, _, rfl, by decide, by decide, zc3, us3, fl_X3_29⟩
theorem fp_X3_29 : FP RX3 29 3 2 false .int := ⟨_, _, _, tyX3, rfl, by decide, by decide, zc3, us3, fl_X3_29, tyX3_ok, nmX3, rfl, (fun h => by cases h), by decide +kernel⟩
theorem ff_X8_118 : FF RX8 118 3 2 := ⟨_, _, _, rfl, by decide, by decide, zc3, us3, fl_X8_118⟩
theorem fp_X8_118 : FP RX8 118 3 2 false .int := ⟨_, _, _, tyX3, rfl, by decide, by decide, zc3, us3, fl_X8_118, tyX3_ok, nmX3, rfl, (fun h => by cases h), by decide +kernel⟩
theorem ff_X3_21 : FF RX3 21 3 3 := ⟨_, _, _, rfl, by decide, by decide, zc3, us3, fl_X3_21⟩
theorem fp_X3_21 : FP RX3 21 3 3 true (.object "DeckBalance$CardBook") := ⟨_, _, _, tyX3, rfl, by decide, by decide, zc3, us3, fl_X3_21, tyX3_ok, nmX3, rfl, (fun _ => rfl), by decide +kernel⟩
theorem ff_X4_9 : FF RX4 9 4 0 := ⟨_, _, _, rfl, by decide, by decide, zc4, us4, fl_X4_9⟩
theorem fp_X4_9 : FP RX4 9 4 0 true (.array .int) := ⟨_, _, _, tyX4, rfl, by decide, by decide, zc4, us4, fl_X4_9, tyX4_ok, nmX4, rfl, (fun _ => rfl), by decide +kernel⟩
theorem ff_X8_154 : FF RX8 154 4 0 := ⟨_, _, _, rfl, by decide, by decide, zc4, us4, fl_X8_154⟩
theorem ff_X4_25 : FF RX4 25 4 1 := ⟨_, _, _, rfl, by decide, by decide, zc4, us4, fl_X4_25⟩
theorem fp_X4_25 : FP RX4 25 4 1 false .int := ⟨_, _, _, tyX4, rfl, by decide, by decide, zc4, us4, fl_X4_25, tyX4_ok, nmX4, rfl, (fun h => by cases h), by decide +kernel⟩
theorem ff_X8_159 : FF RX8 159 4 1 := ⟨_, _, _, rfl, by decide, by decide, zc4, us4, fl_X8_159⟩
theorem fp_X8_159 : FP RX8 159 4 1 false .int := ⟨_, _, _, tyX4, rfl, by decide, by decide, zc4, us4, fl_X8_159, tyX4_ok, nmX4, rfl, (fun h => by cases h), by decide +kernel⟩
theorem ff_X4_15 : FF RX4 15 4 2 := ⟨_, _, _, rfl, by decide, by decide, zc4, us4, fl_X4_15⟩
theorem fp_X4_15 : FP RX4 15 4 2 true (.array .int) := ⟨_, _, _, tyX4, rfl, by decide, by decide, zc4, us4, fl_X4_15, tyX4_ok, nmX4, rfl, (fun _ => rfl), by decide +kernel⟩
theorem ff_X4_63 : FF RX4 63 4 3 := ⟨_, _, _, rfl, by decide, by decide, zc4, us4, fl_X4_63⟩
theorem fp_X4_63 : FP RX4 63 4 3 false .int := ⟨_, _, _, tyX4, rfl, by decide, by decide, zc4, us4, fl_X4_63, tyX4_ok, nmX4, rfl, (fun h => by cases h), by decide +kernel⟩
theorem ff_X4_18 : FF RX4 18 4 4 := ⟨_, _, _, rfl, by decide, by decide, zc4, us4, fl_X4_18⟩
theorem fp_X4_18 : FP RX4 18 4 4 true (.array .int) := ⟨_, _, _, tyX4, rfl, by decide, by decide, zc4, us4, fl_X4_18, tyX4_ok, nmX4, rfl, (fun _ => rfl), by decide +kernel⟩
theorem ff_X4_21 : FF RX4 21 4 5 := ⟨_, _, _, rfl, by decide, by decide, zc4, us4, fl_X4_21⟩
theorem fp_X4_21 : FP RX4 21 4 5 false .int := ⟨_, _, _, tyX4, rfl, by decide, by decide, zc4, us4, fl_X4_21, tyX4_ok, nmX4, rfl, (fun h => by cases h), by decide +kernel⟩
theorem ff_X5_9 : FF RX5 9 5 0 := ⟨_, _, _, rfl, by decide, by decide, zc5, us5, fl_X5_9⟩
theorem fp_X5_9 : FP RX5 9 5 0 true (.array .int) := ⟨_, _, _, tyX5, rfl, by decide, by decide, zc5, us5, fl_X5_9, tyX5_ok, nmX5, rfl, (fun _ => rfl), by decide +kernel⟩
theorem ff_X7_36 : FF RX7 36 5 0 := ⟨_, _, _, rfl, by decide, by decide, zc5, us5, fl_X7_36⟩
theorem ff_X5_15 : FF RX5 15 5 1 := ⟨_, _, _, rfl, by decide, by decide, zc5, us5, fl_X5_15⟩
theorem fp_X5_15 : FP RX5 15 5 1 true (.array .int) := ⟨_, _, _, tyX5, rfl, by decide, by decide, zc5, us5, fl_X5_15, tyX5_ok, nmX5, rfl, (fun _ => rfl), by decide +kernel⟩
theorem ff_X7_30 : FF RX7 30 5 1 := ⟨_, _, _, rfl, by decide, by decide, zc5, us5, fl_X7_30⟩
theorem ff_X5_18 : FF RX5 18 5 2 := ⟨_, _, _, rfl, by decide, by decide, zc5, us5, fl_X5_18⟩
theorem fp_X5_18 : FP RX5 18 5 2 true (.array .int) := ⟨_, _, _, tyX5, rfl, by decide, by decide, zc5, us5, fl_X5_18, tyX5_ok, nmX5, rfl, (fun _ => rfl), by decide +kernel⟩
theorem ff_X5_21 : FF RX5 21 5 3 := ⟨_, _, _, rfl, by decide, by decide, zc5, us5, fl_X5_21⟩
theorem fp_X5_21 : FP RX5 21 5 3 false .int := ⟨_, _, _, tyX5, rfl, by decide, by decide, zc5, us5, fl_X5_21, tyX5_ok, nmX5, rfl, (fun h => by cases h), by decide +kernel⟩
theorem ff_X5_25 : FF RX5 25 5 4 := ⟨_, _, _, rfl, by decide, by decide, zc5, us5, fl_X5_25⟩
theorem fp_X5_25 : FP RX5 25 5 4 false .int := ⟨_, _, _, tyX5, rfl, by decide, by decide, zc5, us5, fl_X5_25, tyX5_ok, nmX5, rfl, (fun h => by cases h), by decide +kernel⟩
theorem ff_X5_28 : FF RX5 28 5 5 := ⟨_, _, _, rfl, by decide, by decide, zc5, us5, fl_X5_28⟩
theorem fp_X5_28 : FP RX5 28 5 5 false .int := ⟨_, _, _, tyX5, rfl, by decide, by decide, zc5, us5, fl_X5_28, tyX5_ok, nmX5, rfl, (fun h => by cases h), by decide +kernel⟩
theorem ff_X1_11 : FF RX1 11 1 0 := ⟨_, _, _, rfl, by decide, by decide, zc1, us1, fl_X1_11⟩
theorem fp_X1_11 : FP RX1 11 1 0 true (.array (.object "DeckBalance$Plan")) := ⟨_, _, _, tyX1, rfl, by decide, by decide, zc1, us1, fl_X1_11, tyX1_ok, nmX1, rfl, (fun _ => rfl), by decide +kernel⟩
theorem ff_X8_109 : FF RX8 109 1 0 := ⟨_, _, _, rfl, by decide, by decide, zc1, us1, fl_X8_109⟩
theorem ff_X1_19 : FF RX1 19 1 1 := ⟨_, _, _, rfl, by decide, by decide, zc1, us1, fl_X1_19⟩
theorem fp_X1_19 : FP RX1 19 1 1 true (.array (.array .int)) := ⟨_, _, _, tyX1, rfl, by decide, by decide, zc1, us1, fl_X1_19, tyX1_ok, nmX1, rfl, (fun _ => rfl), by decide +kernel⟩
theorem ff_X8_136 : FF RX8 136 1 1 := ⟨_, _, _, rfl, by decide, by decide, zc1, us1, fl_X8_136⟩
theorem ff_X1_25 : FF RX1 25 1 2 := ⟨_, _, _, rfl, by decide, by decide, zc1, us1, fl_X1_25⟩
theorem fp_X1_25 : FP RX1 25 1 2 true (.object "DeckBalance$Mix") := ⟨_, _, _, tyX1, rfl, by decide, by decide, zc1, us1, fl_X1_25, tyX1_ok, nmX1, rfl, (fun _ => rfl), by decide +kernel⟩
theorem ff_X8_150 : FF RX8 150 1 2 := ⟨_, _, _, rfl, by decide, by decide, zc1, us1, fl_X8_150⟩
theorem ff_X6_9 : FF RX6 9 6 0 := ⟨_, _, _, rfl, by decide, by decide, zc6, us6, fl_X6_9⟩
theorem fp_X6_9 : FP RX6 9 6 0 true (.array .int) := ⟨_, _, _, tyX6, rfl, by decide, by decide, zc6, us6, fl_X6_9, tyX6_ok, nmX6, rfl, (fun _ => rfl), by decide +kernel⟩
theorem ff_X8_143 : FF RX8 143 6 0 := ⟨_, _, _, rfl, by decide, by decide, zc6, us6, fl_X8_143⟩
theorem ff_X6_15 : FF RX6 15 6 1 := ⟨_, _, _, rfl, by decide, by decide, zc6, us6, fl_X6_15⟩
theorem fp_X6_15 : FP RX6 15 6 1 false .int := ⟨_, _, _, tyX6, rfl, by decide, by decide, zc6, us6, fl_X6_15, tyX6_ok, nmX6, rfl, (fun h => by cases h), by decide +kernel⟩
theorem ff_X8_140 : FF RX8 140 6 1 := ⟨_, _, _, rfl, by decide, by decide, zc6, us6, fl_X8_140⟩
theorem fp_X8_140 : FP RX8 140 6 1 false .int := ⟨_, _, _, tyX6, rfl, by decide, by decide, zc6, us6, fl_X8_140, tyX6_ok, nmX6, rfl, (fun h => by cases h), by decide +kernel⟩
theorem ff_X8_10 : FF RX8 10 8 0 := ⟨_, _, _, rfl, by decide, by decide, zc8, us8, fl_X8_10⟩
theorem fp_X8_10 : FP RX8 10 8 0 true (.object "DeckBalance$CardBook") := ⟨_, _, _, tyX8, rfl, by decide, by decide, zc8, us8, fl_X8_10, tyX8_ok, nmX8, rfl, (fun _ => rfl), by decide +kernel⟩
theorem ff_X8_18 : FF RX8 18 8 1 := ⟨_, _, _, rfl, by decide, by decide, zc8, us8, fl_X8_18⟩
theorem fp_X8_18 : FP RX8 18 8 1 true (.array (.object "DeckBalance$Deck")) := ⟨_, _, _, tyX8, rfl, by decide, by decide, zc8, us8, fl_X8_18, tyX8_ok, nmX8, rfl, (fun _ => rfl), by decide +kernel⟩
theorem ff_X8_28 : FF RX8 28 8 2 := ⟨_, _, _, rfl, by decide, by decide, zc8, us8, fl_X8_28⟩
theorem fp_X8_28 : FP RX8 28 8 2 true (.object "DeckBalance$Game") := ⟨_, _, _, tyX8, rfl, by decide, by decide, zc8, us8, fl_X8_28, tyX8_ok, nmX8, rfl, (fun _ => rfl), by decide +kernel⟩
theorem ff_X8_35 : FF RX8 35 8 3 := ⟨_, _, _, rfl, by decide, by decide, zc8, us8, fl_X8_35⟩
theorem fp_X8_35 : FP RX8 35 8 3 true (.object "DeckBalance$Contest") := ⟨_, _, _, tyX8, rfl, by decide, by decide, zc8, us8, fl_X8_35, tyX8_ok, nmX8, rfl, (fun _ => rfl), by decide +kernel⟩
theorem ff_X8_39 : FF RX8 39 8 4 := ⟨_, _, _, rfl, by decide, by decide, zc8, us8, fl_X8_39⟩
theorem fp_X8_39 : FP RX8 39 8 4 true (.object "DeckBalance$Contest") := ⟨_, _, _, tyX8, rfl, by decide, by decide, zc8, us8, fl_X8_39, tyX8_ok, nmX8, rfl, (fun _ => rfl), by decide +kernel⟩
theorem ff_X8_45 : FF RX8 45 8 5 := ⟨_, _, _, rfl, by decide, by decide, zc8, us8, fl_X8_45⟩
theorem fp_X8_45 : FP RX8 45 8 5 true (.object "DeckBalance$Rings") := ⟨_, _, _, tyX8, rfl, by decide, by decide, zc8, us8, fl_X8_45, tyX8_ok, nmX8, rfl, (fun _ => rfl), by decide +kernel⟩
theorem ff_X8_52 : FF RX8 52 8 6 := ⟨_, _, _, rfl, by decide, by decide, zc8, us8, fl_X8_52⟩
theorem fp_X8_52 : FP RX8 52 8 6 true (.object "DeckBalance$Plan") := ⟨_, _, _, tyX8, rfl, by decide, by decide, zc8, us8, fl_X8_52, tyX8_ok, nmX8, rfl, (fun _ => rfl), by decide +kernel⟩
theorem ff_X8_56 : FF RX8 56 8 7 := ⟨_, _, _, rfl, by decide, by decide, zc8, us8, fl_X8_56⟩
theorem fp_X8_56 : FP RX8 56 8 7 true (.array .int) := ⟨_, _, _, tyX8, rfl, by decide, by decide, zc8, us8, fl_X8_56, tyX8_ok, nmX8, rfl, (fun _ => rfl), by decide +kernel⟩
theorem ff_X8_82 : FF RX8 82 8 8 := ⟨_, _, _, rfl, by decide, by decide, zc8, us8, fl_X8_82⟩
theorem fp_X8_82 : FP RX8 82 8 8 false .int := ⟨_, _, _, tyX8, rfl, by decide, by decide, zc8, us8, fl_X8_82, tyX8_ok, nmX8, rfl, (fun h => by cases h), by decide +kernel⟩
theorem ff_X8_60 : FF RX8 60 8 9 := ⟨_, _, _, rfl, by decide, by decide, zc8, us8, fl_X8_60⟩
theorem fp_X8_60 : FP RX8 60 8 9 false .int := ⟨_, _, _, tyX8, rfl, by decide, by decide, zc8, us8, fl_X8_60, tyX8_ok, nmX8, rfl, (fun h => by cases h), by decide +kernel⟩
theorem ff_X8_186 : FF RX8 186 8 10 := ⟨_, _, _, rfl, by decide, by decide, zc8, us8, fl_X8_186⟩
theorem fp_X8_186 : FP RX8 186 8 10 false .boolean := ⟨_, _, _, tyX8, rfl, by decide, by decide, zc8, us8, fl_X8_186, tyX8_ok, nmX8, rfl, (fun h => by cases h), by decide +kernel⟩
theorem ff_X8_190 : FF RX8 190 8 11 := ⟨_, _, _, rfl, by decide, by decide, zc8, us8, fl_X8_190⟩
theorem fp_X8_190 : FP RX8 190 8 11 false .boolean := ⟨_, _, _, tyX8, rfl, by decide, by decide, zc8, us8, fl_X8_190, tyX8_ok, nmX8, rfl, (fun h => by cases h), by decide +kernel⟩
theorem ff_X9_72 : FF RX9 72 9 0 := ⟨_, _, _, rfl, by decide, by decide, zc9, us9, fl_X9_72⟩
theorem fp_X9_72 : FP RX9 72 9 0 false .int := ⟨_, _, _, tyX9, rfl, by decide, by decide, zc9, us9, fl_X9_72, tyX9_ok, nmX9, rfl, (fun h => by cases h), by decide +kernel⟩
theorem ff_X9_7 : FF RX9 7 9 1 := ⟨_, _, _, rfl, by decide, by decide, zc9, us9, fl_X9_7⟩
theorem fp_X9_7 : FP RX9 7 9 1 true (.array .int) := ⟨_, _, _, tyX9, rfl, by decide, by decide, zc9, us9, fl_X9_7, tyX9_ok, nmX9, rfl, (fun _ => rfl), by decide +kernel⟩
theorem ff_X9_13 : FF RX9 13 9 2 := ⟨_, _, _, rfl, by decide, by decide, zc9, us9, fl_X9_13⟩
theorem fp_X9_13 : FP RX9 13 9 2 true (.array .int) := ⟨_, _, _, tyX9, rfl, by decide, by decide, zc9, us9, fl_X9_13, tyX9_ok, nmX9, rfl, (fun _ => rfl), by decide +kernel⟩
theorem ff_X9_16 : FF RX9 16 9 3 := ⟨_, _, _, rfl, by decide, by decide, zc9, us9, fl_X9_16⟩
theorem fp_X9_16 : FP RX9 16 9 3 true (.array .int) := ⟨_, _, _, tyX9, rfl, by decide, by decide, zc9, us9, fl_X9_16, tyX9_ok, nmX9, rfl, (fun _ => rfl), by decide +kernel⟩
theorem ff_X9_79 : FF RX9 79 9 4 := ⟨_, _, _, rfl, by decide, by decide, zc9, us9, fl_X9_79⟩
theorem fp_X9_79 : FP RX9 79 9 4 false .int := ⟨_, _, _, tyX9, rfl, by decide, by decide, zc9, us9, fl_X9_79, tyX9_ok, nmX9, rfl, (fun h => by cases h), by decide +kernel⟩
theorem ff_X9_19 : FF RX9 19 9 5 := ⟨_, _, _, rfl, by decide, by decide, zc9, us9, fl_X9_19⟩
theorem fp_X9_19 : FP RX9 19 9 5 true (.array .int) := ⟨_, _, _, tyX9, rfl, by decide, by decide, zc9, us9, fl_X9_19, tyX9_ok, nmX9, rfl, (fun _ => rfl), by decide +kernel⟩
theorem ff_X9_22 : FF RX9 22 9 6 := ⟨_, _, _, rfl, by decide, by decide, zc9, us9, fl_X9_22⟩
theorem fp_X9_22 : FP RX9 22 9 6 true (.array .int) := ⟨_, _, _, tyX9, rfl, by decide, by decide, zc9, us9, fl_X9_22, tyX9_ok, nmX9, rfl, (fun _ => rfl), by decide +kernel⟩
theorem ff_X9_25 : FF RX9 25 9 7 := ⟨_, _, _, rfl, by decide, by decide, zc9, us9, fl_X9_25⟩
theorem fp_X9_25 : FP RX9 25 9 7 false .int := ⟨_, _, _, tyX9, rfl, by decide, by decide, zc9, us9, fl_X9_25, tyX9_ok, nmX9, rfl, (fun h => by cases h), by decide +kernel⟩
theorem ff_X9_29 : FF RX9 29 9 8 := ⟨_, _, _, rfl, by decide, by decide, zc9, us9, fl_X9_29⟩
theorem fp_X9_29 : FP RX9 29 9 8 true (.array .int) := ⟨_, _, _, tyX9, rfl, by decide, by decide, zc9, us9, fl_X9_29, tyX9_ok, nmX9, rfl, (fun _ => rfl), by decide +kernel⟩
theorem ff_X9_32 : FF RX9 32 9 9 := ⟨_, _, _, rfl, by decide, by decide, zc9, us9, fl_X9_32⟩
theorem fp_X9_32 : FP RX9 32 9 9 true (.array .int) := ⟨_, _, _, tyX9, rfl, by decide, by decide, zc9, us9, fl_X9_32, tyX9_ok, nmX9, rfl, (fun _ => rfl), by decide +kernel⟩
theorem ff_X9_35 : FF RX9 35 9 10 := ⟨_, _, _, rfl, by decide, by decide, zc9, us9, fl_X9_35⟩
theorem fp_X9_35 : FP RX9 35 9 10 true (.array .int) := ⟨_, _, _, tyX9, rfl, by decide, by decide, zc9, us9, fl_X9_35, tyX9_ok, nmX9, rfl, (fun _ => rfl), by decide +kernel⟩
theorem ff_X9_38 : FF RX9 38 9 11 := ⟨_, _, _, rfl, by decide, by decide, zc9, us9, fl_X9_38⟩
theorem fp_X9_38 : FP RX9 38 9 11 true (.array .int) := ⟨_, _, _, tyX9, rfl, by decide, by decide, zc9, us9, fl_X9_38, tyX9_ok, nmX9, rfl, (fun _ => rfl), by decide +kernel⟩
theorem ff_X9_41 : FF RX9 41 9 12 := ⟨_, _, _, rfl, by decide, by decide, zc9, us9, fl_X9_41⟩
theorem fp_X9_41 : FP RX9 41 9 12 true (.array .int) := ⟨_, _, _, tyX9, rfl, by decide, by decide, zc9, us9, fl_X9_41, tyX9_ok, nmX9, rfl, (fun _ => rfl), by decide +kernel⟩
theorem ff_X9_44 : FF RX9 44 9 13 := ⟨_, _, _, rfl, by decide, by decide, zc9, us9, fl_X9_44⟩
theorem fp_X9_44 : FP RX9 44 9 13 true (.array .int) := ⟨_, _, _, tyX9, rfl, by decide, by decide, zc9, us9, fl_X9_44, tyX9_ok, nmX9, rfl, (fun _ => rfl), by decide +kernel⟩
theorem ff_X9_47 : FF RX9 47 9 14 := ⟨_, _, _, rfl, by decide, by decide, zc9, us9, fl_X9_47⟩
theorem fp_X9_47 : FP RX9 47 9 14 true (.array .int) := ⟨_, _, _, tyX9, rfl, by decide, by decide, zc9, us9, fl_X9_47, tyX9_ok, nmX9, rfl, (fun _ => rfl), by decide +kernel⟩
theorem ff_X9_97 : FF RX9 97 9 15 := ⟨_, _, _, rfl, by decide, by decide, zc9, us9, fl_X9_97⟩
theorem fp_X9_97 : FP RX9 97 9 15 false .int := ⟨_, _, _, tyX9, rfl, by decide, by decide, zc9, us9, fl_X9_97, tyX9_ok, nmX9, rfl, (fun h => by cases h), by decide +kernel⟩
theorem ff_X9_50 : FF RX9 50 9 16 := ⟨_, _, _, rfl, by decide, by decide, zc9, us9, fl_X9_50⟩
theorem fp_X9_50 : FP RX9 50 9 16 true (.array .int) := ⟨_, _, _, tyX9, rfl, by decide, by decide, zc9, us9, fl_X9_50, tyX9_ok, nmX9, rfl, (fun _ => rfl), by decide +kernel⟩
theorem ff_X9_131 : FF RX9 131 9 17 := ⟨_, _, _, rfl, by decide, by decide, zc9, us9, fl_X9_131⟩
theorem fp_X9_131 : FP RX9 131 9 17 false .int := ⟨_, _, _, tyX9, rfl, by decide, by decide, zc9, us9, fl_X9_131, tyX9_ok, nmX9, rfl, (fun h => by cases h), by decide +kernel⟩
theorem ff_X9_134 : FF RX9 134 9 18 := ⟨_, _, _, rfl, by decide, by decide, zc9, us9, fl_X9_134⟩
theorem fp_X9_134 : FP RX9 134 9 18 false .int := ⟨_, _, _, tyX9, rfl, by decide, by decide, zc9, us9, fl_X9_134, tyX9_ok, nmX9, rfl, (fun h => by cases h), by decide +kernel⟩
theorem ff_X9_137 : FF RX9 137 9 19 := ⟨_, _, _, rfl, by decide, by decide, zc9, us9, fl_X9_137⟩
theorem fp_X9_137 : FP RX9 137 9 19 false .int := ⟨_, _, _, tyX9, rfl, by decide, by decide, zc9, us9, fl_X9_137, tyX9_ok, nmX9, rfl, (fun h => by cases h), by decide +kernel⟩
theorem ff_X9_53 : FF RX9 53 9 20 := ⟨_, _, _, rfl, by decide, by decide, zc9, us9, fl_X9_53⟩
theorem fp_X9_53 : FP RX9 53 9 20 true (.array .long) := ⟨_, _, _, tyX9, rfl, by decide, by decide, zc9, us9, fl_X9_53, tyX9_ok, nmX9, rfl, (fun _ => rfl), by decide +kernel⟩
theorem ff_X9_57 : FF RX9 57 9 21 := ⟨_, _, _, rfl, by decide, by decide, zc9, us9, fl_X9_57⟩
theorem fp_X9_57 : FP RX9 57 9 21 true (.array .long) := ⟨_, _, _, tyX9, rfl, by decide, by decide, zc9, us9, fl_X9_57, tyX9_ok, nmX9, rfl, (fun _ => rfl), by decide +kernel⟩
theorem ff_X9_60 : FF RX9 60 9 22 := ⟨_, _, _, rfl, by decide, by decide, zc9, us9, fl_X9_60⟩
theorem fp_X9_60 : FP RX9 60 9 22 true (.array .long) := ⟨_, _, _, tyX9, rfl, by decide, by decide, zc9, us9, fl_X9_60, tyX9_ok, nmX9, rfl, (fun _ => rfl), by decide +kernel⟩
theorem ff_X9_63 : FF RX9 63 9 23 := ⟨_, _, _, rfl, by decide, by decide, zc9, us9, fl_X9_63⟩
theorem fp_X9_63 : FP RX9 63 9 23 true (.array .long) := ⟨_, _, _, tyX9, rfl, by decide, by decide, zc9, us9, fl_X9_63, tyX9_ok, nmX9, rfl, (fun _ => rfl), by decide +kernel⟩
theorem ff_X9_66 : FF RX9 66 9 24 := ⟨_, _, _, rfl, by decide, by decide, zc9, us9, fl_X9_66⟩
theorem fp_X9_66 : FP RX9 66 9 24 true (.array .long) := ⟨_, _, _, tyX9, rfl, by decide, by decide, zc9, us9, fl_X9_66, tyX9_ok, nmX9, rfl, (fun _ => rfl), by decide +kernel⟩
theorem ff_X9_69 : FF RX9 69 9 25 := ⟨_, _, _, rfl, by decide, by decide, zc9, us9, fl_X9_69⟩
theorem fp_X9_69 : FP RX9 69 9 25 true (.array .int) := ⟨_, _, _, tyX9, rfl, by decide, by decide, zc9, us9, fl_X9_69, tyX9_ok, nmX9, rfl, (fun _ => rfl), by decide +kernel⟩
theorem fc_L_9 : FC RL 9 yX8_init cX8_init 2 none 0 := ⟨wc_X8_init, ml_L_9, wi_X8, by decide +kernel⟩
theorem fc_X8_25 : FC RX8 25 yX3_init cX3_init 2 none 1 := ⟨wc_X3_init, ml_X8_25, wi_X3, by decide +kernel⟩
theorem fc_X8_34 : FC RX8 34 yX1_init cX1_init 2 none 0 := ⟨wc_X1_init, ml_X8_34, wi_X1, by decide +kernel⟩
theorem fc_L_13 : FC RL 13 yX8_card cX8_card 4 (some .int) 3 := ⟨wc_X8_card, ml_L_13, wi_X8, by decide +kernel⟩
theorem fc_X8_64 : FC RX8 64 yX8_isOutside cX8_isOutside 3 (some .boolean) 3 := ⟨wc_X8_isOutside, ml_X8_64, wi_X8, by decide +kernel⟩
theorem fc_X8_68 : FC RX8 68 yX0_enter cX0_enter 4 (some .int) 3 := ⟨wc_X0_enter, ml_X8_68, wi_X0, by decide +kernel⟩
theorem fc_L_18 : FC RL 18 yX8_power cX8_power 4 (some .int) 2 := ⟨wc_X8_power, ml_L_18, wi_X8, by decide +kernel⟩
theorem fc_X8_72 : FC RX8 72 yX8_isNoCard cX8_isNoCard 2 (some .boolean) 1 := ⟨wc_X8_isNoCard, ml_X8_72, wi_X8, by decide +kernel⟩
theorem fc_X8_79 : FC RX8 79 yX8_forgetTables cX8_forgetTables 1 none 0 := ⟨wc_X8_forgetTables, ml_X8_79, wi_X8, by decide +kernel⟩
theorem fc_L_23 : FC RL 23 yX8_deck cX8_deck 1 (some .int) 0 := ⟨wc_X8_deck, ml_L_23, wi_X8, by decide +kernel⟩
theorem fc_L_28 : FC RL 28 yX8_add cX8_add 4 (some .int) 2 := ⟨wc_X8_add, ml_L_28, wi_X8, by decide +kernel⟩
theorem fc_X8_85 : FC RX8 85 yX8_isNoDeck cX8_isNoDeck 2 (some .boolean) 1 := ⟨wc_X8_isNoDeck, ml_X8_85, wi_X8, by decide +kernel⟩
theorem fc_X8_88 : FC RX8 88 yX2_append cX2_append 2 (some .int) 1 := ⟨wc_X2_append, ml_X8_88, wi_X2, by decide +kernel⟩
theorem fc_L_32 : FC RL 32 yX8_drop cX8_drop 4 (some .int) 2 := ⟨wc_X8_drop, ml_L_32, wi_X8, by decide +kernel⟩
theorem fc_X8_92 : FC RX8 92 yX8_isNoPlace cX8_isNoPlace 3 (some .boolean) 2 := ⟨wc_X8_isNoPlace, ml_X8_92, wi_X8, by decide +kernel⟩
theorem fc_X8_96 : FC RX8 96 yX2_takeOut cX2_takeOut 4 (some .int) 1 := ⟨wc_X2_takeOut, ml_X8_96, wi_X2, by decide +kernel⟩
theorem fc_L_36 : FC RL 36 yX8_swap cX8_swap 4 (some .int) 3 := ⟨wc_X8_swap, ml_L_36, wi_X8, by decide +kernel⟩
theorem fc_X8_99 : FC RX8 99 yX2_exchange cX2_exchange 4 none 2 := ⟨wc_X2_exchange, ml_X8_99, wi_X2, by decide +kernel⟩
theorem fc_L_40 : FC RL 40 yX8_at cX8_at 3 (some .int) 2 := ⟨wc_X8_at, ml_L_40, wi_X8, by decide +kernel⟩
theorem fc_L_44 : FC RL 44 yX8_life cX8_life 3 (some .int) 1 := ⟨wc_X8_life, ml_L_44, wi_X8, by decide +kernel⟩
theorem fc_L_49 : FC RL 49 yX8_play cX8_play 3 (some .int) 2 := ⟨wc_X8_play, ml_L_49, wi_X8, by decide +kernel⟩
theorem fc_X8_106 : FC RX8 106 yX8_learnTables cX8_learnTables 3 none 0 := ⟨wc_X8_learnTables, ml_X8_106, wi_X8, by decide +kernel⟩
theorem fc_X8_193 : FC RX8 193 yX5_lay cX5_lay 5 none 3 := ⟨wc_X5_lay, ml_X8_193, wi_X5, by decide +kernel⟩
theorem fc_X5_31 : FC RX5 31 yX5_draw cX5_draw 3 none 2 := ⟨wc_X5_draw, ml_X5_31, wi_X5, by decide +kernel⟩
theorem fc_X5_35 : FC RX5 35 yJ9_min_7cf53 cJ9_min_7cf53 2 (some .int) 2 := ⟨wc_J9_min_7cf53, ml_X5_35, wi_J9, by decide +kernel⟩
theorem fc_X5_41 : FC RX5 41 yX5_playHand cX5_playHand 6 none 2 := ⟨wc_X5_playHand, ml_X5_41, wi_X5, by decide +kernel⟩
theorem fc_X5_53 : FC RX5 53 yX5_nextPlace cX5_nextPlace 5 (some .int) 2 := ⟨wc_X5_nextPlace, ml_X5_53, wi_X5, by decide +kernel⟩
theorem fc_X5_66 : FC RX5 66 yX0_isPlayedAhead cX0_isPlayedAhead 3 (some .boolean) 2 := ⟨wc_X0_isPlayedAhead, ml_X5_66, wi_X0, by decide +kernel⟩
theorem fc_X5_62 : FC RX5 62 yX5_putDown cX5_putDown 2 none 1 := ⟨wc_X5_putDown, ml_X5_62, wi_X5, by decide +kernel⟩
theorem fc_X8_197 : FC RX8 197 yX8_tableOf cX8_tableOf 3 (some .int) 2 := ⟨wc_X8_tableOf, ml_X8_197, wi_X8, by decide +kernel⟩
theorem fc_X8_113 : FC RX8 113 yX3_resultOf cX3_resultOf 5 (some .int) 3 := ⟨wc_X3_resultOf, ml_X8_113, wi_X3, by decide +kernel⟩
theorem fc_X3_25 : FC RX3 25 yX7_begin cX7_begin 2 none 1 := ⟨wc_X7_begin, ml_X3_25, wi_X7, by decide +kernel⟩
theorem fc_X3_33 : FC RX3 33 yX7_defeats cX7_defeats 7 (some .boolean) 4 := ⟨wc_X7_defeats, ml_X3_33, wi_X7, by decide +kernel⟩
theorem fc_X7_24 : FC RX7 24 yJ9_max_7cf53 cJ9_max_7cf53 2 (some .int) 2 := ⟨wc_J9_max_7cf53, ml_X7_24, wi_J9, by decide +kernel⟩
theorem fc_X7_39 : FC RX7 39 yX7_put cX7_put 4 none 3 := ⟨wc_X7_put, ml_X7_39, wi_X7, by decide +kernel⟩
theorem fc_X3_40 : FC RX3 40 yJ6_compare_7cf53 cJ6_compare_7cf53 2 (some .int) 2 := ⟨wc_J6_compare_7cf53, ml_X3_40, wi_J6, by decide +kernel⟩
theorem fc_X8_201 : FC RX8 201 yX1_enter cX1_enter 4 none 3 := ⟨wc_X1_enter, ml_X8_201, wi_X1, by decide +kernel⟩
theorem fc_X8_204 : FC RX8 204 yX6_find cX6_find 5 none 2 := ⟨wc_X6_find, ml_X8_204, wi_X6, by decide +kernel⟩
theorem fc_X6_19 : FC RX6 19 yX6_findThird cX6_findThird 6 none 4 := ⟨wc_X6_findThird, ml_X6_19, wi_X6, by decide +kernel⟩
theorem fc_L_53 : FC RL 53 yX8_told cX8_told 4 (some .int) 3 := ⟨wc_X8_told, ml_L_53, wi_X8, by decide +kernel⟩
theorem fc_L_57 : FC RL 57 yX8_table cX8_table 3 (some .int) 2 := ⟨wc_X8_table, ml_L_57, wi_X8, by decide +kernel⟩
theorem fc_L_61 : FC RL 61 yX8_rings cX8_rings 1 (some .int) 0 := ⟨wc_X8_rings, ml_L_61, wi_X8, by decide +kernel⟩
theorem fc_L_65 : FC RL 65 yX8_ring cX8_ring 3 (some .int) 2 := ⟨wc_X8_ring, ml_L_65, wi_X8, by decide +kernel⟩
theorem fc_L_69 : FC RL 69 yX8_share cX8_share 6 (some .long) 2 := ⟨wc_X8_share, ml_L_69, wi_X8, by decide +kernel⟩
theorem fc_X8_147 : FC RX8 147 yX8_learnMix cX8_learnMix 1 none 0 := ⟨wc_X8_learnMix, ml_X8_147, wi_X8, by decide +kernel⟩
theorem fc_X8_208 : FC RX8 208 yX4_find cX4_find 7 none 2 := ⟨wc_X4_find, ml_X8_208, wi_X4, by decide +kernel⟩
theorem fc_X4_28 : FC RX4 28 yX4_findMinors cX4_findMinors 6 none 1 := ⟨wc_X4_findMinors, ml_X4_28, wi_X4, by decide +kernel⟩
theorem fc_X4_32 : FC RX4 32 yJ6_bitCount_0f7a4 cJ6_bitCount_0f7a4 1 (some .int) 1 := ⟨wc_J6_bitCount_0f7a4, ml_X4_32, wi_J6, by decide +kernel⟩
theorem fc_X4_53 : FC RX4 53 yX4_minorOf cX4_minorOf 9 (some .int) 3 := ⟨wc_X4_minorOf, ml_X4_53, wi_X4, by decide +kernel⟩
theorem fc_X4_57 : FC RX4 57 yX4_leastOf cX4_leastOf 3 (some .int) 1 := ⟨wc_X4_leastOf, ml_X4_57, wi_X4, by decide +kernel⟩
theorem fc_X4_60 : FC RX4 60 yX4_isIn cX4_isIn 2 (some .boolean) 2 := ⟨wc_X4_isIn, ml_X4_60, wi_X4, by decide +kernel⟩
theorem fc_X4_38 : FC RX4 38 yX4_tryCorner cX4_tryCorner 7 (some .boolean) 2 := ⟨wc_X4_tryCorner, ml_X4_38, wi_X4, by decide +kernel⟩
theorem fc_X4_66 : FC RX4 66 yX4_turnSigns cX4_turnSigns 2 none 0 := ⟨wc_X4_turnSigns, ml_X4_66, wi_X4, by decide +kernel⟩
theorem fc_X4_42 : FC RX4 42 yX4_isHolding cX4_isHolding 5 (some .boolean) 1 := ⟨wc_X4_isHolding, ml_X4_42, wi_X4, by decide +kernel⟩
theorem fc_X4_46 : FC RX4 46 yX4_isGreater cX4_isGreater 3 (some .boolean) 0 := ⟨wc_X4_isGreater, ml_X4_46, wi_X4, by decide +kernel⟩
theorem fc_X4_50 : FC RX4 50 yX4_takeTried cX4_takeTried 2 none 0 := ⟨wc_X4_takeTried, ml_X4_50, wi_X4, by decide +kernel⟩
theorem fc_X8_162 : FC RX8 162 yX8_greatestDivisor cX8_greatestDivisor 6 (some .int) 2 := ⟨wc_X8_greatestDivisor, ml_X8_162, wi_X8, by decide +kernel⟩
theorem fc_L_74 : FC RL 74 yX8_live cX8_live 3 (some .int) 0 := ⟨wc_X8_live, ml_L_74, wi_X8, by decide +kernel⟩
theorem fc_L_78 : FC RL 78 yX8_standing cX8_standing 2 (some .int) 1 := ⟨wc_X8_standing, ml_L_78, wi_X8, by decide +kernel⟩
theorem fc_X8_166 : FC RX8 166 yX8_sumOf cX8_sumOf 4 (some .int) 1 := ⟨wc_X8_sumOf, ml_X8_166, wi_X8, by decide +kernel⟩
theorem fc_L_82 : FC RL 82 yX8_worth cX8_worth 3 (some .int) 2 := ⟨wc_X8_worth, ml_L_82, wi_X8, by decide +kernel⟩
theorem fc_X8_170 : FC RX8 170 yX2_firstPlaceOf cX2_firstPlaceOf 3 (some .int) 1 := ⟨wc_X2_firstPlaceOf, ml_X8_170, wi_X2, by decide +kernel⟩
theorem fc_X8_173 : FC RX8 173 yX8_learnTablesWithout cX8_learnTablesWithout 4 none 2 := ⟨wc_X8_learnTablesWithout, ml_X8_173, wi_X8, by decide +kernel⟩
theorem fc_L_86 : FC RL 86 yX8_idle cX8_idle 4 (some .int) 2 := ⟨wc_X8_idle, ml_L_86, wi_X8, by decide +kernel⟩
theorem fc_L_90 : FC RL 90 yX8_remedy cX8_remedy 7 (some .int) 2 := ⟨wc_X8_remedy, ml_L_90, wi_X8, by decide +kernel⟩
theorem fc_X8_177 : FC RX8 177 yX8_isMixWithin cX8_isMixWithin 6 (some .boolean) 4 := ⟨wc_X8_isMixWithin, ml_X8_177, wi_X8, by decide +kernel⟩
theorem fc_X8_209 : FC RX8 209 yX8_learnTrialTables cX8_learnTrialTables 5 none 1 := ⟨wc_X8_learnTrialTables, ml_X8_209, wi_X8, by decide +kernel⟩
theorem fc_X8_220 : FC RX8 220 yX8_hasCard cX8_hasCard 3 (some .boolean) 2 := ⟨wc_X8_hasCard, ml_X8_220, wi_X8, by decide +kernel⟩
theorem fc_X8_223 : FC RX8 223 yX8_trialPlan cX8_trialPlan 3 (some (.object "DeckBalance$Plan")) 2 := ⟨wc_X8_trialPlan, ml_X8_223, wi_X8, by decide +kernel⟩
theorem fc_X8_213 : FC RX8 213 yX1_hasTablesOf cX1_hasTablesOf 5 (some .boolean) 2 := ⟨wc_X1_hasTablesOf, ml_X8_213, wi_X1, by decide +kernel⟩
theorem fc_X8_217 : FC RX8 217 yX4_isWithin cX4_isWithin 4 (some .boolean) 2 := ⟨wc_X4_isWithin, ml_X8_217, wi_X4, by decide +kernel⟩
theorem fc_L_94 : FC RL 94 yX8_count cX8_count 2 (some .int) 1 := ⟨wc_X8_count, ml_L_94, wi_X8, by decide +kernel⟩
theorem fc_X8_181 : FC RX8 181 yX8_cardsInDecks cX8_cardsInDecks 3 (some .int) 0 := ⟨wc_X8_cardsInDecks, ml_X8_181, wi_X8, by decide +kernel⟩
theorem fc_L_12 : FC RL 12 yX9_init cX9_init 1 none 0 := ⟨wc_X9_init, ml_L_12, wi_X9, by decide +kernel⟩
theorem fc_L_17 : FC RL 17 yX9_card cX9_card 4 (some .int) 3 := ⟨wc_X9_card, ml_L_17, wi_X9, by decide +kernel⟩
theorem fc_X9_75 : FC RX9 75 yX9_in cX9_in 3 (some .boolean) 3 := ⟨wc_X9_in, ml_X9_75, wi_X9, by decide +kernel⟩
theorem fc_L_22 : FC RL 22 yX9_power cX9_power 4 (some .int) 2 := ⟨wc_X9_power, ml_L_22, wi_X9, by decide +kernel⟩
theorem fc_X9_82 : FC RX9 82 yX9_isCard cX9_isCard 2 (some .boolean) 1 := ⟨wc_X9_isCard, ml_X9_82, wi_X9, by decide +kernel⟩
theorem fc_L_27 : FC RL 27 yX9_deck cX9_deck 1 (some .int) 0 := ⟨wc_X9_deck, ml_L_27, wi_X9, by decide +kernel⟩
theorem fc_L_31 : FC RL 31 yX9_add cX9_add 3 (some .int) 2 := ⟨wc_X9_add, ml_L_31, wi_X9, by decide +kernel⟩
theorem fc_X9_86 : FC RX9 86 yX9_isDeck cX9_isDeck 2 (some .boolean) 1 := ⟨wc_X9_isDeck, ml_X9_86, wi_X9, by decide +kernel⟩
theorem fc_L_35 : FC RL 35 yX9_drop cX9_drop 4 (some .int) 2 := ⟨wc_X9_drop, ml_L_35, wi_X9, by decide +kernel⟩
theorem fc_X9_89 : FC RX9 89 yX9_isPlace cX9_isPlace 3 (some .boolean) 2 := ⟨wc_X9_isPlace, ml_X9_89, wi_X9, by decide +kernel⟩
theorem fc_X9_93 : FC RX9 93 yX9_dropAt cX9_dropAt 4 none 2 := ⟨wc_X9_dropAt, ml_X9_93, wi_X9, by decide +kernel⟩
theorem fc_L_39 : FC RL 39 yX9_swap cX9_swap 5 (some .int) 3 := ⟨wc_X9_swap, ml_L_39, wi_X9, by decide +kernel⟩
theorem fc_L_43 : FC RL 43 yX9_at cX9_at 3 (some .int) 2 := ⟨wc_X9_at, ml_L_43, wi_X9, by decide +kernel⟩
theorem fc_L_48 : FC RL 48 yX9_life cX9_life 3 (some .int) 1 := ⟨wc_X9_life, ml_L_48, wi_X9, by decide +kernel⟩
theorem fc_L_52 : FC RL 52 yX9_play cX9_play 3 (some .int) 2 := ⟨wc_X9_play, ml_L_52, wi_X9, by decide +kernel⟩
theorem fc_X9_118 : FC RX9 118 yX9_result cX9_result 3 (some .int) 2 := ⟨wc_X9_result, ml_X9_118, wi_X9, by decide +kernel⟩
theorem fc_X9_115 : FC RX9 115 yX9_game cX9_game 4 none 2 := ⟨wc_X9_game, ml_X9_115, wi_X9, by decide +kernel⟩
theorem fc_X9_104 : FC RX9 104 yX9_isOver cX9_isOver 1 (some .boolean) 0 := ⟨wc_X9_isOver, ml_X9_104, wi_X9, by decide +kernel⟩
theorem fc_X9_111 : FC RX9 111 yX9_move cX9_move 6 none 1 := ⟨wc_X9_move, ml_X9_111, wi_X9, by decide +kernel⟩
theorem fc_X9_100 : FC RX9 100 yX9_nextCard cX9_nextCard 6 (some .int) 2 := ⟨wc_X9_nextCard, ml_X9_100, wi_X9, by decide +kernel⟩
theorem fc_X9_108 : FC RX9 108 yX9_playCard cX9_playCard 3 none 2 := ⟨wc_X9_playCard, ml_X9_108, wi_X9, by decide +kernel⟩
theorem fc_L_56 : FC RL 56 yX9_told cX9_told 4 (some .int) 3 := ⟨wc_X9_told, ml_L_56, wi_X9, by decide +kernel⟩
theorem fc_L_60 : FC RL 60 yX9_table cX9_table 3 (some .int) 2 := ⟨wc_X9_table, ml_L_60, wi_X9, by decide +kernel⟩
theorem fc_X9_122 : FC RX9 122 yX9_tableOf cX9_tableOf 3 (some .int) 2 := ⟨wc_X9_tableOf, ml_X9_122, wi_X9, by decide +kernel⟩
theorem fc_L_64 : FC RL 64 yX9_rings cX9_rings 1 (some .int) 0 := ⟨wc_X9_rings, ml_L_64, wi_X9, by decide +kernel⟩
theorem fc_X9_140 : FC RX9 140 yX9_findRings cX9_findRings 6 (some .int) 1 := ⟨wc_X9_findRings, ml_X9_140, wi_X9, by decide +kernel⟩
theorem fc_X9_125 : FC RX9 125 yX9_layTables cX9_layTables 3 none 0 := ⟨wc_X9_layTables, ml_X9_125, wi_X9, by decide +kernel⟩
theorem fc_X9_128 : FC RX9 128 yX9_beats cX9_beats 3 (some .boolean) 2 := ⟨wc_X9_beats, ml_X9_128, wi_X9, by decide +kernel⟩
theorem fc_L_68 : FC RL 68 yX9_ring cX9_ring 3 (some .int) 2 := ⟨wc_X9_ring, ml_L_68, wi_X9, by decide +kernel⟩
theorem fc_L_73 : FC RL 73 yX9_share cX9_share 3 (some .long) 2 := ⟨wc_X9_share, ml_L_73, wi_X9, by decide +kernel⟩
theorem fc_X9_174 : FC RX9 174 yX9_findMix cX9_findMix 3 none 0 := ⟨wc_X9_findMix, ml_X9_174, wi_X9, by decide +kernel⟩
theorem fc_X9_157 : FC RX9 157 yX9_ones cX9_ones 3 (some .int) 1 := ⟨wc_X9_ones, ml_X9_157, wi_X9, by decide +kernel⟩
theorem fc_X9_160 : FC RX9 160 yX9_layBounds cX9_layBounds 5 none 1 := ⟨wc_X9_layBounds, ml_X9_160, wi_X9, by decide +kernel⟩
theorem fc_X9_163 : FC RX9 163 yX9_solve cX9_solve 8 (some .boolean) 0 := ⟨wc_X9_solve, ml_X9_163, wi_X9, by decide +kernel⟩
theorem fc_X9_148 : FC RX9 148 yX9_changeRows cX9_changeRows 6 none 2 := ⟨wc_X9_changeRows, ml_X9_148, wi_X9, by decide +kernel⟩
theorem fc_X9_151 : FC RX9 151 yX9_clearRow cX9_clearRow 11 none 3 := ⟨wc_X9_clearRow, ml_X9_151, wi_X9, by decide +kernel⟩
theorem fc_X9_144 : FC RX9 144 yX9_divisor cX9_divisor 10 (some .long) 2 := ⟨wc_X9_divisor, ml_X9_144, wi_X9, by decide +kernel⟩
theorem fc_X9_166 : FC RX9 166 yX9_holds cX9_holds 8 (some .boolean) 0 := ⟨wc_X9_holds, ml_X9_166, wi_X9, by decide +kernel⟩
theorem fc_X9_169 : FC RX9 169 yX9_isGreater cX9_isGreater 4 (some .boolean) 0 := ⟨wc_X9_isGreater, ml_X9_169, wi_X9, by decide +kernel⟩
theorem fc_L_77 : FC RL 77 yX9_live cX9_live 3 (some .int) 0 := ⟨wc_X9_live, ml_L_77, wi_X9, by decide +kernel⟩
theorem fc_L_81 : FC RL 81 yX9_standing cX9_standing 2 (some .int) 1 := ⟨wc_X9_standing, ml_L_81, wi_X9, by decide +kernel⟩
theorem fc_X9_177 : FC RX9 177 yX9_standingOf cX9_standingOf 4 (some .int) 1 := ⟨wc_X9_standingOf, ml_X9_177, wi_X9, by decide +kernel⟩
theorem fc_L_85 : FC RL 85 yX9_worth cX9_worth 6 (some .int) 2 := ⟨wc_X9_worth, ml_L_85, wi_X9, by decide +kernel⟩
theorem fc_X9_180 : FC RX9 180 yX9_placeOf cX9_placeOf 4 (some .int) 2 := ⟨wc_X9_placeOf, ml_X9_180, wi_X9, by decide +kernel⟩
theorem fc_X9_183 : FC RX9 183 yX9_putBack cX9_putBack 5 none 3 := ⟨wc_X9_putBack, ml_X9_183, wi_X9, by decide +kernel⟩
theorem fc_L_89 : FC RL 89 yX9_idle cX9_idle 6 (some .int) 2 := ⟨wc_X9_idle, ml_L_89, wi_X9, by decide +kernel⟩
theorem fc_L_93 : FC RL 93 yX9_remedy cX9_remedy 9 (some .int) 2 := ⟨wc_X9_remedy, ml_L_93, wi_X9, by decide +kernel⟩
theorem fc_X9_186 : FC RX9 186 yX9_isRemedied cX9_isRemedied 5 (some .boolean) 2 := ⟨wc_X9_isRemedied, ml_X9_186, wi_X9, by decide +kernel⟩
theorem fc_L_97 : FC RL 97 yX9_count cX9_count 4 (some .int) 1 := ⟨wc_X9_count, ml_L_97, wi_X9, by decide +kernel⟩
