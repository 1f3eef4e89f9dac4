def L_X0_init_1 : List (Nat × Nat × Nat) := [(1, 0, 2), (1, 1, 3), (1, 2, 4)]
set_option maxRecDepth 100000 in
set_option maxHeartbeats 4000000 in
theorem c_X0_init_1 {l : Launch} {D : va_G} {Z : ZC} {Q : Nat → Nat} {MR : ZR} {MI ML : ZM} (S : zst 2 MR MI ML) : CMg l yX0_init cX0_init 1 none 1 12 3 36 D Z 2 Q MR [.ref (Q 1)] MI ML (fun v n' Q' MR' MI' ML' => v = none ∧ n' = 5 ∧ agr 2 Q Q' ∧ MR' = rfL L_X0_init_1 MR ∧ MI' = MI ∧ ML' = ML ∧ zst 5 MR' MI' ML') := by
  refine CMg.of (by decide +kernel) rfl (Nat.le_of_ble_eq_true rfl) ?_
  intro X K E _ _ _ hN hI
  show V X (0, 0) 2 Q MR MI ML 0 [(0, .ref (Q 1))] []
  refine v_aload_n K 0 dX0_init_0 rfl rfl ?_
  refine v_objI K ob_X0_3 ob_m ob_c (by decide) (by decide) dX0_init_1 ?_
  refine v_aload_n K 0 dX0_init_4 rfl rfl ?_
  refine v_bipush K dX0_init_5 (by decide) ?_
  refine v_newi K 12 rfl (by decide) ac_int S rfl rfl (Nat.le_of_ble_eq_true rfl) (Nat.le_of_ble_eq_true rfl) (fun Q8 => [(0, .ref (Q8 1))]) (fun Q8 => [.ref (Q8 1)]) (fun Q9 h9 => ⟨by simp only [h9 1 (by decide)], by simp only [h9 1 (by decide)]⟩) dX0_init_7 (fun Q7_1 a7_1 => ?_)
  show V X (1, 12) 3 Q7_1 MR MI ML 9 [(0, .ref (Q7_1 1))] [.ref (Q7_1 2), .ref (Q7_1 1)]
  have S_2 : zst 3 MR MI ML := S.le (by decide)
  refine v_putF K hI fp_X0_9 (fun _ => ⟨rfl, rfl⟩) (by decide) rfl rfl dX0_init_9 ?_
  show V X (1, 12) 3 Q7_1 (z_upR MR 1 0 (some 2)) MI ML 12 [(0, .ref (Q7_1 1))] []
  have S_3 : zst 3 (z_upR MR 1 0 (some 2)) MI ML := S_2.ref (by decide) (by decide)
  refine v_aload_n K 0 dX0_init_12 rfl rfl ?_
  refine v_bipush K dX0_init_13 (by decide) ?_
  refine v_newi K 12 rfl (by decide) ac_int S_3 rfl rfl (Nat.le_of_ble_eq_true rfl) (Nat.le_of_ble_eq_true rfl) (fun Q8 => [(0, .ref (Q8 1))]) (fun Q8 => [.ref (Q8 1)]) (fun Q9 h9 => ⟨by simp only [h9 1 (by decide)], by simp only [h9 1 (by decide)]⟩) dX0_init_15 (fun Q15_4 a15_4 => ?_)
  show V X (2, 24) 4 Q15_4 (z_upR MR 1 0 (some 2)) MI ML 17 [(0, .ref (Q15_4 1))] [.ref (Q15_4 3), .ref (Q15_4 1)]
  have S_5 : zst 4 (z_upR MR 1 0 (some 2)) MI ML := S_3.le (by decide)
  refine v_putF K hI fp_X0_15 (fun _ => ⟨rfl, rfl⟩) (by decide) rfl rfl dX0_init_17 ?_
  show V X (2, 24) 4 Q15_4 (z_upR (z_upR MR 1 0 (some 2)) 1 1 (some 3)) MI ML 20 [(0, .ref (Q15_4 1))] []
  have S_6 : zst 4 (z_upR (z_upR MR 1 0 (some 2)) 1 1 (some 3)) MI ML := S_5.ref (by decide) (by decide)
  refine v_aload_n K 0 dX0_init_20 rfl rfl ?_
  refine v_bipush K dX0_init_21 (by decide) ?_
  refine v_newi K 12 rfl (by decide) ac_int S_6 rfl rfl (Nat.le_of_ble_eq_true rfl) (Nat.le_of_ble_eq_true rfl) (fun Q8 => [(0, .ref (Q8 1))]) (fun Q8 => [.ref (Q8 1)]) (fun Q9 h9 => ⟨by simp only [h9 1 (by decide)], by simp only [h9 1 (by decide)]⟩) dX0_init_23 (fun Q23_7 a23_7 => ?_)
  show V X (3, 36) 5 Q23_7 (z_upR (z_upR MR 1 0 (some 2)) 1 1 (some 3)) MI ML 25 [(0, .ref (Q23_7 1))] [.ref (Q23_7 4), .ref (Q23_7 1)]
  have S_8 : zst 5 (z_upR (z_upR MR 1 0 (some 2)) 1 1 (some 3)) MI ML := S_6.le (by decide)
  refine v_putF K hI fp_X0_18 (fun _ => ⟨rfl, rfl⟩) (by decide) rfl rfl dX0_init_25 ?_
  show V X (3, 36) 5 Q23_7 (z_upR (z_upR (z_upR MR 1 0 (some 2)) 1 1 (some 3)) 1 2 (some 4)) MI ML 28 [(0, .ref (Q23_7 1))] []
  have S_9 : zst 5 (z_upR (z_upR (z_upR MR 1 0 (some 2)) 1 1 (some 3)) 1 2 (some 4)) MI ML := S_8.ref (by decide) (by decide)
  exact v_ret K E dX0_init_28 ⟨rfl, rfl, ((((agr.rf _ _).tr a7_1 (by decide)).tr a15_4 (by decide)).tr a23_7 (by decide)), rfl, rfl, rfl, S_9⟩
def L_X2_init_6 : List (Nat × Nat × Nat) := [(6, 0, 7)]
set_option maxRecDepth 100000 in
set_option maxHeartbeats 4000000 in
theorem c_X2_init_6 {l : Launch} {D : va_G} {Z : ZC} {Q : Nat → Nat} {MR : ZR} {MI ML : ZM} (S : zst 7 MR MI ML) : CMg l yX2_init cX2_init 1 none 1 12 1 10 D Z 7 Q MR [.ref (Q 6)] MI ML (fun v n' Q' MR' MI' ML' => v = none ∧ n' = 8 ∧ agr 7 Q Q' ∧ MR' = rfL L_X2_init_6 MR ∧ MI' = MI ∧ ML' = ML ∧ zst 8 MR' MI' ML') := by
  refine CMg.of (by decide +kernel) rfl (Nat.le_of_ble_eq_true rfl) ?_
  intro X K E _ _ _ hN hI
  show V X (0, 0) 7 Q MR MI ML 0 [(0, .ref (Q 6))] []
  refine v_aload_n K 0 dX2_init_0 rfl rfl ?_
  refine v_objI K ob_X2_3 ob_m ob_c (by decide) (by decide) dX2_init_1 ?_
  refine v_aload_n K 0 dX2_init_4 rfl rfl ?_
  refine v_bipush K dX2_init_5 (by decide) ?_
  refine v_newi K 10 rfl (by decide) ac_int S rfl rfl (Nat.le_of_ble_eq_true rfl) (Nat.le_of_ble_eq_true rfl) (fun Q8 => [(0, .ref (Q8 6))]) (fun Q8 => [.ref (Q8 6)]) (fun Q9 h9 => ⟨by simp only [h9 6 (by decide)], by simp only [h9 6 (by decide)]⟩) dX2_init_7 (fun Q7_1 a7_1 => ?_)
  show V X (1, 10) 8 Q7_1 MR MI ML 9 [(0, .ref (Q7_1 6))] [.ref (Q7_1 7), .ref (Q7_1 6)]
  have S_2 : zst 8 MR MI ML := S.le (by decide)
  refine v_putF K hI fp_X2_9 (fun _ => ⟨rfl, rfl⟩) (by decide) rfl rfl dX2_init_9 ?_
  show V X (1, 10) 8 Q7_1 (z_upR MR 6 0 (some 7)) MI ML 12 [(0, .ref (Q7_1 6))] []
  have S_3 : zst 8 (z_upR MR 6 0 (some 7)) MI ML := S_2.ref (by decide) (by decide)
  exact v_ret K E dX2_init_12 ⟨rfl, rfl, ((agr.rf _ _).tr a7_1 (by decide)), rfl, rfl, rfl, S_3⟩
def L_X2_init_8 : List (Nat × Nat × Nat) := [(8, 0, 9)]
set_option maxRecDepth 100000 in
set_option maxHeartbeats 4000000 in
theorem c_X2_init_8 {l : Launch} {D : va_G} {Z : ZC} {Q : Nat → Nat} {MR : ZR} {MI ML : ZM} (S : zst 9 MR MI ML) : CMg l yX2_init cX2_init 1 none 1 12 1 10 D Z 9 Q MR [.ref (Q 8)] MI ML (fun v n' Q' MR' MI' ML' => v = none ∧ n' = 10 ∧ agr 9 Q Q' ∧ MR' = rfL L_X2_init_8 MR ∧ MI' = MI ∧ ML' = ML ∧ zst 10 MR' MI' ML') := by
  refine CMg.of (by decide +kernel) rfl (Nat.le_of_ble_eq_true rfl) ?_
  intro X K E _ _ _ hN hI
  show V X (0, 0) 9 Q MR MI ML 0 [(0, .ref (Q 8))] []
  refine v_aload_n K 0 dX2_init_0 rfl rfl ?_
  refine v_objI K ob_X2_3 ob_m ob_c (by decide) (by decide) dX2_init_1 ?_
  refine v_aload_n K 0 dX2_init_4 rfl rfl ?_
  refine v_bipush K dX2_init_5 (by decide) ?_
  refine v_newi K 10 rfl (by decide) ac_int S rfl rfl (Nat.le_of_ble_eq_true rfl) (Nat.le_of_ble_eq_true rfl) (fun Q8 => [(0, .ref (Q8 8))]) (fun Q8 => [.ref (Q8 8)]) (fun Q9 h9 => ⟨by simp only [h9 8 (by decide)], by simp only [h9 8 (by decide)]⟩) dX2_init_7 (fun Q7_1 a7_1 => ?_)
  show V X (1, 10) 10 Q7_1 MR MI ML 9 [(0, .ref (Q7_1 8))] [.ref (Q7_1 9), .ref (Q7_1 8)]
  have S_2 : zst 10 MR MI ML := S.le (by decide)
  refine v_putF K hI fp_X2_9 (fun _ => ⟨rfl, rfl⟩) (by decide) rfl rfl dX2_init_9 ?_
  show V X (1, 10) 10 Q7_1 (z_upR MR 8 0 (some 9)) MI ML 12 [(0, .ref (Q7_1 8))] []
  have S_3 : zst 10 (z_upR MR 8 0 (some 9)) MI ML := S_2.ref (by decide) (by decide)
  exact v_ret K E dX2_init_12 ⟨rfl, rfl, ((agr.rf _ _).tr a7_1 (by decide)), rfl, rfl, rfl, S_3⟩
def L_X2_init_10 : List (Nat × Nat × Nat) := [(10, 0, 11)]
set_option maxRecDepth 100000 in
set_option maxHeartbeats 4000000 in
theorem c_X2_init_10 {l : Launch} {D : va_G} {Z : ZC} {Q : Nat → Nat} {MR : ZR} {MI ML : ZM} (S : zst 11 MR MI ML) : CMg l yX2_init cX2_init 1 none 1 12 1 10 D Z 11 Q MR [.ref (Q 10)] MI ML (fun v n' Q' MR' MI' ML' => v = none ∧ n' = 12 ∧ agr 11 Q Q' ∧ MR' = rfL L_X2_init_10 MR ∧ MI' = MI ∧ ML' = ML ∧ zst 12 MR' MI' ML') := by
  refine CMg.of (by decide +kernel) rfl (Nat.le_of_ble_eq_true rfl) ?_
  intro X K E _ _ _ hN hI
  show V X (0, 0) 11 Q MR MI ML 0 [(0, .ref (Q 10))] []
  refine v_aload_n K 0 dX2_init_0 rfl rfl ?_
  refine v_objI K ob_X2_3 ob_m ob_c (by decide) (by decide) dX2_init_1 ?_
  refine v_aload_n K 0 dX2_init_4 rfl rfl ?_
  refine v_bipush K dX2_init_5 (by decide) ?_
  refine v_newi K 10 rfl (by decide) ac_int S rfl rfl (Nat.le_of_ble_eq_true rfl) (Nat.le_of_ble_eq_true rfl) (fun Q8 => [(0, .ref (Q8 10))]) (fun Q8 => [.ref (Q8 10)]) (fun Q9 h9 => ⟨by simp only [h9 10 (by decide)], by simp only [h9 10 (by decide)]⟩) dX2_init_7 (fun Q7_1 a7_1 => ?_)
  show V X (1, 10) 12 Q7_1 MR MI ML 9 [(0, .ref (Q7_1 10))] [.ref (Q7_1 11), .ref (Q7_1 10)]
  have S_2 : zst 12 MR MI ML := S.le (by decide)
  refine v_putF K hI fp_X2_9 (fun _ => ⟨rfl, rfl⟩) (by decide) rfl rfl dX2_init_9 ?_
  show V X (1, 10) 12 Q7_1 (z_upR MR 10 0 (some 11)) MI ML 12 [(0, .ref (Q7_1 10))] []
  have S_3 : zst 12 (z_upR MR 10 0 (some 11)) MI ML := S_2.ref (by decide) (by decide)
  exact v_ret K E dX2_init_12 ⟨rfl, rfl, ((agr.rf _ _).tr a7_1 (by decide)), rfl, rfl, rfl, S_3⟩
def L_X2_init_12 : List (Nat × Nat × Nat) := [(12, 0, 13)]
set_option maxRecDepth 100000 in
set_option maxHeartbeats 4000000 in
theorem c_X2_init_12 {l : Launch} {D : va_G} {Z : ZC} {Q : Nat → Nat} {MR : ZR} {MI ML : ZM} (S : zst 13 MR MI ML) : CMg l yX2_init cX2_init 1 none 1 12 1 10 D Z 13 Q MR [.ref (Q 12)] MI ML (fun v n' Q' MR' MI' ML' => v = none ∧ n' = 14 ∧ agr 13 Q Q' ∧ MR' = rfL L_X2_init_12 MR ∧ MI' = MI ∧ ML' = ML ∧ zst 14 MR' MI' ML') := by
  refine CMg.of (by decide +kernel) rfl (Nat.le_of_ble_eq_true rfl) ?_
  intro X K E _ _ _ hN hI
  show V X (0, 0) 13 Q MR MI ML 0 [(0, .ref (Q 12))] []
  refine v_aload_n K 0 dX2_init_0 rfl rfl ?_
  refine v_objI K ob_X2_3 ob_m ob_c (by decide) (by decide) dX2_init_1 ?_
  refine v_aload_n K 0 dX2_init_4 rfl rfl ?_
  refine v_bipush K dX2_init_5 (by decide) ?_
  refine v_newi K 10 rfl (by decide) ac_int S rfl rfl (Nat.le_of_ble_eq_true rfl) (Nat.le_of_ble_eq_true rfl) (fun Q8 => [(0, .ref (Q8 12))]) (fun Q8 => [.ref (Q8 12)]) (fun Q9 h9 => ⟨by simp only [h9 12 (by decide)], by simp only [h9 12 (by decide)]⟩) dX2_init_7 (fun Q7_1 a7_1 => ?_)
  show V X (1, 10) 14 Q7_1 MR MI ML 9 [(0, .ref (Q7_1 12))] [.ref (Q7_1 13), .ref (Q7_1 12)]
  have S_2 : zst 14 MR MI ML := S.le (by decide)
  refine v_putF K hI fp_X2_9 (fun _ => ⟨rfl, rfl⟩) (by decide) rfl rfl dX2_init_9 ?_
  show V X (1, 10) 14 Q7_1 (z_upR MR 12 0 (some 13)) MI ML 12 [(0, .ref (Q7_1 12))] []
  have S_3 : zst 14 (z_upR MR 12 0 (some 13)) MI ML := S_2.ref (by decide) (by decide)
  exact v_ret K E dX2_init_12 ⟨rfl, rfl, ((agr.rf _ _).tr a7_1 (by decide)), rfl, rfl, rfl, S_3⟩
def L_X2_init_14 : List (Nat × Nat × Nat) := [(14, 0, 15)]
set_option maxRecDepth 100000 in
set_option maxHeartbeats 4000000 in
theorem c_X2_init_14 {l : Launch} {D : va_G} {Z : ZC} {Q : Nat → Nat} {MR : ZR} {MI ML : ZM} (S : zst 15 MR MI ML) : CMg l yX2_init cX2_init 1 none 1 12 1 10 D Z 15 Q MR [.ref (Q 14)] MI ML (fun v n' Q' MR' MI' ML' => v = none ∧ n' = 16 ∧ agr 15 Q Q' ∧ MR' = rfL L_X2_init_14 MR ∧ MI' = MI ∧ ML' = ML ∧ zst 16 MR' MI' ML') := by
  refine CMg.of (by decide +kernel) rfl (Nat.le_of_ble_eq_true rfl) ?_
  intro X K E _ _ _ hN hI
  show V X (0, 0) 15 Q MR MI ML 0 [(0, .ref (Q 14))] []
  refine v_aload_n K 0 dX2_init_0 rfl rfl ?_
  refine v_objI K ob_X2_3 ob_m ob_c (by decide) (by decide) dX2_init_1 ?_
  refine v_aload_n K 0 dX2_init_4 rfl rfl ?_
  refine v_bipush K dX2_init_5 (by decide) ?_
  refine v_newi K 10 rfl (by decide) ac_int S rfl rfl (Nat.le_of_ble_eq_true rfl) (Nat.le_of_ble_eq_true rfl) (fun Q8 => [(0, .ref (Q8 14))]) (fun Q8 => [.ref (Q8 14)]) (fun Q9 h9 => ⟨by simp only [h9 14 (by decide)], by simp only [h9 14 (by decide)]⟩) dX2_init_7 (fun Q7_1 a7_1 => ?_)
  show V X (1, 10) 16 Q7_1 MR MI ML 9 [(0, .ref (Q7_1 14))] [.ref (Q7_1 15), .ref (Q7_1 14)]
  have S_2 : zst 16 MR MI ML := S.le (by decide)
  refine v_putF K hI fp_X2_9 (fun _ => ⟨rfl, rfl⟩) (by decide) rfl rfl dX2_init_9 ?_
  show V X (1, 10) 16 Q7_1 (z_upR MR 14 0 (some 15)) MI ML 12 [(0, .ref (Q7_1 14))] []
  have S_3 : zst 16 (z_upR MR 14 0 (some 15)) MI ML := S_2.ref (by decide) (by decide)
  exact v_ret K E dX2_init_12 ⟨rfl, rfl, ((agr.rf _ _).tr a7_1 (by decide)), rfl, rfl, rfl, S_3⟩
def L_X7_init_17 : List (Nat × Nat × Nat) := []
set_option maxRecDepth 100000 in
set_option maxHeartbeats 4000000 in
theorem c_X7_init_17 {l : Launch} {D : va_G} {Z : ZC} {Q : Nat → Nat} {MR : ZR} {MI ML : ZM} (S : zst 18 MR MI ML) : CMg l yX7_init cX7_init 1 none 1 12 0 0 D Z 18 Q MR [.ref (Q 17)] MI ML (fun v n' Q' MR' MI' ML' => v = none ∧ n' = 18 ∧ agr 18 Q Q' ∧ MR' = rfL L_X7_init_17 MR ∧ MI' = MI ∧ ML' = ML ∧ zst 18 MR' MI' ML') := by
  refine CMg.of (by decide +kernel) rfl (Nat.le_of_ble_eq_true rfl) ?_
  intro X K E _ _ _ hN hI
  show V X (0, 0) 18 Q MR MI ML 0 [(0, .ref (Q 17))] []
  refine v_aload_n K 0 dX7_init_0 rfl rfl ?_
  refine v_objI K ob_X7_3 ob_m ob_c (by decide) (by decide) dX7_init_1 ?_
  exact v_ret K E dX7_init_4 ⟨rfl, rfl, (agr.rf _ _), rfl, rfl, rfl, S⟩
def L_X7_init_18 : List (Nat × Nat × Nat) := []
set_option maxRecDepth 100000 in
set_option maxHeartbeats 4000000 in
theorem c_X7_init_18 {l : Launch} {D : va_G} {Z : ZC} {Q : Nat → Nat} {MR : ZR} {MI ML : ZM} (S : zst 19 MR MI ML) : CMg l yX7_init cX7_init 1 none 1 12 0 0 D Z 19 Q MR [.ref (Q 18)] MI ML (fun v n' Q' MR' MI' ML' => v = none ∧ n' = 19 ∧ agr 19 Q Q' ∧ MR' = rfL L_X7_init_18 MR ∧ MI' = MI ∧ ML' = ML ∧ zst 19 MR' MI' ML') := by
  refine CMg.of (by decide +kernel) rfl (Nat.le_of_ble_eq_true rfl) ?_
  intro X K E _ _ _ hN hI
  show V X (0, 0) 19 Q MR MI ML 0 [(0, .ref (Q 18))] []
  refine v_aload_n K 0 dX7_init_0 rfl rfl ?_
  refine v_objI K ob_X7_3 ob_m ob_c (by decide) (by decide) dX7_init_1 ?_
  exact v_ret K E dX7_init_4 ⟨rfl, rfl, (agr.rf _ _), rfl, rfl, rfl, S⟩
def L_X3_init_16 : List (Nat × Nat × Nat) := [(16, 0, 17), (16, 1, 18), (16, 3, 1)]
set_option maxRecDepth 100000 in
set_option maxHeartbeats 4000000 in
theorem c_X3_init_16 {l : Launch} {D : va_G} {Z : ZC} {Q : Nat → Nat} {MR : ZR} {MI ML : ZM} (S : zst 17 MR MI ML) : CMg l yX3_init cX3_init 2 none 2 32 2 8 D Z 17 Q MR [.ref (Q 16), .ref (Q 1)] MI ML (fun v n' Q' MR' MI' ML' => v = none ∧ n' = 19 ∧ agr 17 Q Q' ∧ MR' = rfL L_X3_init_16 MR ∧ MI' = MI ∧ ML' = ML ∧ zst 19 MR' MI' ML') := by
  refine CMg.of (by decide +kernel) rfl (Nat.le_of_ble_eq_true rfl) ?_
  intro X K E _ _ _ hN hI
  show V X (0, 0) 17 Q MR MI ML 0 [(0, .ref (Q 16)), (1, .ref (Q 1))] []
  refine v_aload_n K 0 dX3_init_0 rfl rfl ?_
  refine v_objI K ob_X3_3 ob_m ob_c (by decide) (by decide) dX3_init_1 ?_
  refine v_aload_n K 0 dX3_init_4 rfl rfl ?_
  refine v_new K fn_X3_9 S rfl rfl (Nat.le_of_ble_eq_true rfl) (Nat.le_of_ble_eq_true rfl) (fun Q8 => [(0, .ref (Q8 16)), (1, .ref (Q8 1))]) (fun Q8 => [.ref (Q8 16)]) (fun Q9 h9 => ⟨by simp only [h9 1 (by decide), h9 16 (by decide)], by simp only [h9 16 (by decide)]⟩) dX3_init_5 (fun Q5_1 a5_1 => ?_)
  show V X (1, 4) 18 Q5_1 MR MI ML 8 [(0, .ref (Q5_1 16)), (1, .ref (Q5_1 1))] [.ref (Q5_1 17), .ref (Q5_1 16)]
  have S_2 : zst 18 MR MI ML := S.le (by decide)
  refine v_dup K dX3_init_8 rfl ?_
  refine v_callN K hN (c_X7_init_17 S_2) rfl wc_X7_init (by decide +kernel) wi_X7 (by decide +kernel) wm_X7_init rfl rfl ⟨Nat.le_of_ble_eq_true rfl, Nat.le_of_ble_eq_true rfl, Nat.le_of_ble_eq_true rfl, Nat.le_of_ble_eq_true rfl⟩ (Nat.le_of_ble_eq_true rfl) dX3_init_9 (fun v9 n9 Q9_3 MR9 MI9 ML9 h9 => ?_)
  obtain ⟨e1, e2, a9_3, e3, e4, e5, S_4⟩ := h9
  subst e1; subst e2
  have e3 := e3.symm
  subst e3
  have e4 := e4.symm
  subst e4
  have e5 := e5.symm
  subst e5
  rw [← a9_3 1 (by decide), ← a9_3 16 (by decide), ← a9_3 17 (by decide)]
  show V X (1, 4) 18 Q9_3 (rfL L_X7_init_17 MR) MI ML 12 [(0, .ref (Q9_3 16)), (1, .ref (Q9_3 1))] [.ref (Q9_3 17), .ref (Q9_3 16)]
  refine v_putF K hI fp_X3_12 (fun _ => ⟨rfl, rfl⟩) (by decide) rfl rfl dX3_init_12 ?_
  show V X (1, 4) 18 Q9_3 (z_upR (rfL L_X7_init_17 MR) 16 0 (some 17)) MI ML 15 [(0, .ref (Q9_3 16)), (1, .ref (Q9_3 1))] []
  have S_5 : zst 18 (z_upR (rfL L_X7_init_17 MR) 16 0 (some 17)) MI ML := S_4.ref (by decide) (by decide)
  refine v_aload_n K 0 dX3_init_15 rfl rfl ?_
  refine v_new K fn_X3_9 S_5 rfl rfl (Nat.le_of_ble_eq_true rfl) (Nat.le_of_ble_eq_true rfl) (fun Q8 => [(0, .ref (Q8 16)), (1, .ref (Q8 1))]) (fun Q8 => [.ref (Q8 16)]) (fun Q9 h9 => ⟨by simp only [h9 1 (by decide), h9 16 (by decide)], by simp only [h9 16 (by decide)]⟩) dX3_init_16 (fun Q16_6 a16_6 => ?_)
  show V X (2, 8) 19 Q16_6 (z_upR (rfL L_X7_init_17 MR) 16 0 (some 17)) MI ML 19 [(0, .ref (Q16_6 16)), (1, .ref (Q16_6 1))] [.ref (Q16_6 18), .ref (Q16_6 16)]
  have S_7 : zst 19 (z_upR (rfL L_X7_init_17 MR) 16 0 (some 17)) MI ML := S_5.le (by decide)
  refine v_dup K dX3_init_19 rfl ?_
  refine v_callN K hN (c_X7_init_18 S_7) rfl wc_X7_init (by decide +kernel) wi_X7 (by decide +kernel) wm_X7_init rfl rfl ⟨Nat.le_of_ble_eq_true rfl, Nat.le_of_ble_eq_true rfl, Nat.le_of_ble_eq_true rfl, Nat.le_of_ble_eq_true rfl⟩ (Nat.le_of_ble_eq_true rfl) dX3_init_20 (fun v9 n9 Q20_8 MR9 MI9 ML9 h9 => ?_)
  obtain ⟨e1, e2, a20_8, e3, e4, e5, S_9⟩ := h9
  subst e1; subst e2
  have e3 := e3.symm
  subst e3
  have e4 := e4.symm
  subst e4
  have e5 := e5.symm
  subst e5
  rw [← a20_8 1 (by decide), ← a20_8 16 (by decide), ← a20_8 18 (by decide)]
  show V X (2, 8) 19 Q20_8 (rfL L_X7_init_18 (z_upR (rfL L_X7_init_17 MR) 16 0 (some 17))) MI ML 23 [(0, .ref (Q20_8 16)), (1, .ref (Q20_8 1))] [.ref (Q20_8 18), .ref (Q20_8 16)]
  refine v_putF K hI fp_X3_18 (fun _ => ⟨rfl, rfl⟩) (by decide) rfl rfl dX3_init_23 ?_
  show V X (2, 8) 19 Q20_8 (z_upR (rfL L_X7_init_18 (z_upR (rfL L_X7_init_17 MR) 16 0 (some 17))) 16 1 (some 18)) MI ML 26 [(0, .ref (Q20_8 16)), (1, .ref (Q20_8 1))] []
  have S_10 : zst 19 (z_upR (rfL L_X7_init_18 (z_upR (rfL L_X7_init_17 MR) 16 0 (some 17))) 16 1 (some 18)) MI ML := S_9.ref (by decide) (by decide)
  refine v_aload_n K 0 dX3_init_26 rfl rfl ?_
  refine v_aload_n K 1 dX3_init_27 rfl rfl ?_
  refine v_putF K hI fp_X3_21 (fun _ => ⟨rfl, rfl⟩) (by decide) rfl rfl dX3_init_28 ?_
  show V X (2, 8) 19 Q20_8 (z_upR (z_upR (rfL L_X7_init_18 (z_upR (rfL L_X7_init_17 MR) 16 0 (some 17))) 16 1 (some 18)) 16 3 (some 1)) MI ML 31 [(0, .ref (Q20_8 16)), (1, .ref (Q20_8 1))] []
  have S_11 : zst 19 (z_upR (z_upR (rfL L_X7_init_18 (z_upR (rfL L_X7_init_17 MR) 16 0 (some 17))) 16 1 (some 18)) 16 3 (some 1)) MI ML := S_10.ref (by decide) (by decide)
  exact v_ret K E dX3_init_31 ⟨rfl, rfl, (((((agr.rf _ _).tr a5_1 (by decide)).tr a9_3 (by decide)).tr a16_6 (by decide)).tr a20_8 (by decide)), rfl, rfl, rfl, S_11⟩
def L_X4_init_27 : List (Nat × Nat × Nat) := [(27, 0, 28), (27, 2, 29), (27, 4, 30)]
set_option maxRecDepth 100000 in
set_option maxHeartbeats 4000000 in
theorem c_X4_init_27 {l : Launch} {D : va_G} {Z : ZC} {Q : Nat → Nat} {MR : ZR} {MI ML : ZM} (S : zst 28 MR MI ML) : CMg l yX4_init cX4_init 1 none 1 12 3 1034 D Z 28 Q MR [.ref (Q 27)] MI ML (fun v n' Q' MR' MI' ML' => v = none ∧ n' = 31 ∧ agr 28 Q Q' ∧ MR' = rfL L_X4_init_27 MR ∧ MI' = MI ∧ ML' = ML ∧ zst 31 MR' MI' ML') := by
  refine CMg.of (by decide +kernel) rfl (Nat.le_of_ble_eq_true rfl) ?_
  intro X K E _ _ _ hN hI
  show V X (0, 0) 28 Q MR MI ML 0 [(0, .ref (Q 27))] []
  refine v_aload_n K 0 dX4_init_0 rfl rfl ?_
  refine v_objI K ob_X4_3 ob_m ob_c (by decide) (by decide) dX4_init_1 ?_
  refine v_aload_n K 0 dX4_init_4 rfl rfl ?_
  refine v_iconst K dX4_init_5 ?_
  refine v_newi K 5 rfl (by decide) ac_int S rfl rfl (Nat.le_of_ble_eq_true rfl) (Nat.le_of_ble_eq_true rfl) (fun Q8 => [(0, .ref (Q8 27))]) (fun Q8 => [.ref (Q8 27)]) (fun Q9 h9 => ⟨by simp only [h9 27 (by decide)], by simp only [h9 27 (by decide)]⟩) dX4_init_6 (fun Q6_1 a6_1 => ?_)
  show V X (1, 5) 29 Q6_1 MR MI ML 8 [(0, .ref (Q6_1 27))] [.ref (Q6_1 28), .ref (Q6_1 27)]
  have S_2 : zst 29 MR MI ML := S.le (by decide)
  refine v_putF K hI fp_X4_9 (fun _ => ⟨rfl, rfl⟩) (by decide) rfl rfl dX4_init_8 ?_
  show V X (1, 5) 29 Q6_1 (z_upR MR 27 0 (some 28)) MI ML 11 [(0, .ref (Q6_1 27))] []
  have S_3 : zst 29 (z_upR MR 27 0 (some 28)) MI ML := S_2.ref (by decide) (by decide)
  refine v_aload_n K 0 dX4_init_11 rfl rfl ?_
  refine v_iconst K dX4_init_12 ?_
  refine v_newi K 5 rfl (by decide) ac_int S_3 rfl rfl (Nat.le_of_ble_eq_true rfl) (Nat.le_of_ble_eq_true rfl) (fun Q8 => [(0, .ref (Q8 27))]) (fun Q8 => [.ref (Q8 27)]) (fun Q9 h9 => ⟨by simp only [h9 27 (by decide)], by simp only [h9 27 (by decide)]⟩) dX4_init_13 (fun Q13_4 a13_4 => ?_)
  show V X (2, 10) 30 Q13_4 (z_upR MR 27 0 (some 28)) MI ML 15 [(0, .ref (Q13_4 27))] [.ref (Q13_4 29), .ref (Q13_4 27)]
  have S_5 : zst 30 (z_upR MR 27 0 (some 28)) MI ML := S_3.le (by decide)
  refine v_putF K hI fp_X4_15 (fun _ => ⟨rfl, rfl⟩) (by decide) rfl rfl dX4_init_15 ?_
  show V X (2, 10) 30 Q13_4 (z_upR (z_upR MR 27 0 (some 28)) 27 2 (some 29)) MI ML 18 [(0, .ref (Q13_4 27))] []
  have S_6 : zst 30 (z_upR (z_upR MR 27 0 (some 28)) 27 2 (some 29)) MI ML := S_5.ref (by decide) (by decide)
  refine v_aload_n K 0 dX4_init_18 rfl rfl ?_
  refine v_sipush K dX4_init_19 (by decide) ?_
  refine v_newi K 1024 rfl (by decide) ac_int S_6 rfl rfl (Nat.le_of_ble_eq_true rfl) (Nat.le_of_ble_eq_true rfl) (fun Q8 => [(0, .ref (Q8 27))]) (fun Q8 => [.ref (Q8 27)]) (fun Q9 h9 => ⟨by simp only [h9 27 (by decide)], by simp only [h9 27 (by decide)]⟩) dX4_init_22 (fun Q22_7 a22_7 => ?_)
  show V X (3, 1034) 31 Q22_7 (z_upR (z_upR MR 27 0 (some 28)) 27 2 (some 29)) MI ML 24 [(0, .ref (Q22_7 27))] [.ref (Q22_7 30), .ref (Q22_7 27)]
  have S_8 : zst 31 (z_upR (z_upR MR 27 0 (some 28)) 27 2 (some 29)) MI ML := S_6.le (by decide)
  refine v_putF K hI fp_X4_18 (fun _ => ⟨rfl, rfl⟩) (by decide) rfl rfl dX4_init_24 ?_
  show V X (3, 1034) 31 Q22_7 (z_upR (z_upR (z_upR MR 27 0 (some 28)) 27 2 (some 29)) 27 4 (some 30)) MI ML 27 [(0, .ref (Q22_7 27))] []
  have S_9 : zst 31 (z_upR (z_upR (z_upR MR 27 0 (some 28)) 27 2 (some 29)) 27 4 (some 30)) MI ML := S_8.ref (by decide) (by decide)
  exact v_ret K E dX4_init_27 ⟨rfl, rfl, ((((agr.rf _ _).tr a6_1 (by decide)).tr a13_4 (by decide)).tr a22_7 (by decide)), rfl, rfl, rfl, S_9⟩
def L_X5_init_31 : List (Nat × Nat × Nat) := [(31, 0, 32), (31, 1, 33), (31, 2, 34)]
set_option maxRecDepth 100000 in
set_option maxHeartbeats 4000000 in
theorem c_X5_init_31 {l : Launch} {D : va_G} {Z : ZC} {Q : Nat → Nat} {MR : ZR} {MI ML : ZM} (S : zst 32 MR MI ML) : CMg l yX5_init cX5_init 1 none 1 12 3 33 D Z 32 Q MR [.ref (Q 31)] MI ML (fun v n' Q' MR' MI' ML' => v = none ∧ n' = 35 ∧ agr 32 Q Q' ∧ MR' = rfL L_X5_init_31 MR ∧ MI' = MI ∧ ML' = ML ∧ zst 35 MR' MI' ML') := by
  refine CMg.of (by decide +kernel) rfl (Nat.le_of_ble_eq_true rfl) ?_
  intro X K E _ _ _ hN hI
  show V X (0, 0) 32 Q MR MI ML 0 [(0, .ref (Q 31))] []
  refine v_aload_n K 0 dX5_init_0 rfl rfl ?_
  refine v_objI K ob_X5_3 ob_m ob_c (by decide) (by decide) dX5_init_1 ?_
  refine v_aload_n K 0 dX5_init_4 rfl rfl ?_
  refine v_bipush K dX5_init_5 (by decide) ?_
  refine v_newi K 10 rfl (by decide) ac_int S rfl rfl (Nat.le_of_ble_eq_true rfl) (Nat.le_of_ble_eq_true rfl) (fun Q8 => [(0, .ref (Q8 31))]) (fun Q8 => [.ref (Q8 31)]) (fun Q9 h9 => ⟨by simp only [h9 31 (by decide)], by simp only [h9 31 (by decide)]⟩) dX5_init_7 (fun Q7_1 a7_1 => ?_)
  show V X (1, 10) 33 Q7_1 MR MI ML 9 [(0, .ref (Q7_1 31))] [.ref (Q7_1 32), .ref (Q7_1 31)]
  have S_2 : zst 33 MR MI ML := S.le (by decide)
  refine v_putF K hI fp_X5_9 (fun _ => ⟨rfl, rfl⟩) (by decide) rfl rfl dX5_init_9 ?_
  show V X (1, 10) 33 Q7_1 (z_upR MR 31 0 (some 32)) MI ML 12 [(0, .ref (Q7_1 31))] []
  have S_3 : zst 33 (z_upR MR 31 0 (some 32)) MI ML := S_2.ref (by decide) (by decide)
  refine v_aload_n K 0 dX5_init_12 rfl rfl ?_
  refine v_bipush K dX5_init_13 (by decide) ?_
  refine v_newi K 13 rfl (by decide) ac_int S_3 rfl rfl (Nat.le_of_ble_eq_true rfl) (Nat.le_of_ble_eq_true rfl) (fun Q8 => [(0, .ref (Q8 31))]) (fun Q8 => [.ref (Q8 31)]) (fun Q9 h9 => ⟨by simp only [h9 31 (by decide)], by simp only [h9 31 (by decide)]⟩) dX5_init_15 (fun Q15_4 a15_4 => ?_)
  show V X (2, 23) 34 Q15_4 (z_upR MR 31 0 (some 32)) MI ML 17 [(0, .ref (Q15_4 31))] [.ref (Q15_4 33), .ref (Q15_4 31)]
  have S_5 : zst 34 (z_upR MR 31 0 (some 32)) MI ML := S_3.le (by decide)
  refine v_putF K hI fp_X5_15 (fun _ => ⟨rfl, rfl⟩) (by decide) rfl rfl dX5_init_17 ?_
  show V X (2, 23) 34 Q15_4 (z_upR (z_upR MR 31 0 (some 32)) 31 1 (some 33)) MI ML 20 [(0, .ref (Q15_4 31))] []
  have S_6 : zst 34 (z_upR (z_upR MR 31 0 (some 32)) 31 1 (some 33)) MI ML := S_5.ref (by decide) (by decide)
  refine v_aload_n K 0 dX5_init_20 rfl rfl ?_
  refine v_bipush K dX5_init_21 (by decide) ?_
  refine v_newi K 10 rfl (by decide) ac_int S_6 rfl rfl (Nat.le_of_ble_eq_true rfl) (Nat.le_of_ble_eq_true rfl) (fun Q8 => [(0, .ref (Q8 31))]) (fun Q8 => [.ref (Q8 31)]) (fun Q9 h9 => ⟨by simp only [h9 31 (by decide)], by simp only [h9 31 (by decide)]⟩) dX5_init_23 (fun Q23_7 a23_7 => ?_)
  show V X (3, 33) 35 Q23_7 (z_upR (z_upR MR 31 0 (some 32)) 31 1 (some 33)) MI ML 25 [(0, .ref (Q23_7 31))] [.ref (Q23_7 34), .ref (Q23_7 31)]
  have S_8 : zst 35 (z_upR (z_upR MR 31 0 (some 32)) 31 1 (some 33)) MI ML := S_6.le (by decide)
  refine v_putF K hI fp_X5_18 (fun _ => ⟨rfl, rfl⟩) (by decide) rfl rfl dX5_init_25 ?_
  show V X (3, 33) 35 Q23_7 (z_upR (z_upR (z_upR MR 31 0 (some 32)) 31 1 (some 33)) 31 2 (some 34)) MI ML 28 [(0, .ref (Q23_7 31))] []
  have S_9 : zst 35 (z_upR (z_upR (z_upR MR 31 0 (some 32)) 31 1 (some 33)) 31 2 (some 34)) MI ML := S_8.ref (by decide) (by decide)
  exact v_ret K E dX5_init_28 ⟨rfl, rfl, ((((agr.rf _ _).tr a7_1 (by decide)).tr a15_4 (by decide)).tr a23_7 (by decide)), rfl, rfl, rfl, S_9⟩
def L_X5_init_35 : List (Nat × Nat × Nat) := [(35, 0, 36), (35, 1, 37), (35, 2, 38)]
set_option maxRecDepth 100000 in
set_option maxHeartbeats 4000000 in
theorem c_X5_init_35 {l : Launch} {D : va_G} {Z : ZC} {Q : Nat → Nat} {MR : ZR} {MI ML : ZM} (S : zst 36 MR MI ML) : CMg l yX5_init cX5_init 1 none 1 12 3 33 D Z 36 Q MR [.ref (Q 35)] MI ML (fun v n' Q' MR' MI' ML' => v = none ∧ n' = 39 ∧ agr 36 Q Q' ∧ MR' = rfL L_X5_init_35 MR ∧ MI' = MI ∧ ML' = ML ∧ zst 39 MR' MI' ML') := by
  refine CMg.of (by decide +kernel) rfl (Nat.le_of_ble_eq_true rfl) ?_
  intro X K E _ _ _ hN hI
  show V X (0, 0) 36 Q MR MI ML 0 [(0, .ref (Q 35))] []
  refine v_aload_n K 0 dX5_init_0 rfl rfl ?_
  refine v_objI K ob_X5_3 ob_m ob_c (by decide) (by decide) dX5_init_1 ?_
  refine v_aload_n K 0 dX5_init_4 rfl rfl ?_
  refine v_bipush K dX5_init_5 (by decide) ?_
  refine v_newi K 10 rfl (by decide) ac_int S rfl rfl (Nat.le_of_ble_eq_true rfl) (Nat.le_of_ble_eq_true rfl) (fun Q8 => [(0, .ref (Q8 35))]) (fun Q8 => [.ref (Q8 35)]) (fun Q9 h9 => ⟨by simp only [h9 35 (by decide)], by simp only [h9 35 (by decide)]⟩) dX5_init_7 (fun Q7_1 a7_1 => ?_)
  show V X (1, 10) 37 Q7_1 MR MI ML 9 [(0, .ref (Q7_1 35))] [.ref (Q7_1 36), .ref (Q7_1 35)]
  have S_2 : zst 37 MR MI ML := S.le (by decide)
  refine v_putF K hI fp_X5_9 (fun _ => ⟨rfl, rfl⟩) (by decide) rfl rfl dX5_init_9 ?_
  show V X (1, 10) 37 Q7_1 (z_upR MR 35 0 (some 36)) MI ML 12 [(0, .ref (Q7_1 35))] []
  have S_3 : zst 37 (z_upR MR 35 0 (some 36)) MI ML := S_2.ref (by decide) (by decide)
  refine v_aload_n K 0 dX5_init_12 rfl rfl ?_
  refine v_bipush K dX5_init_13 (by decide) ?_
  refine v_newi K 13 rfl (by decide) ac_int S_3 rfl rfl (Nat.le_of_ble_eq_true rfl) (Nat.le_of_ble_eq_true rfl) (fun Q8 => [(0, .ref (Q8 35))]) (fun Q8 => [.ref (Q8 35)]) (fun Q9 h9 => ⟨by simp only [h9 35 (by decide)], by simp only [h9 35 (by decide)]⟩) dX5_init_15 (fun Q15_4 a15_4 => ?_)
  show V X (2, 23) 38 Q15_4 (z_upR MR 35 0 (some 36)) MI ML 17 [(0, .ref (Q15_4 35))] [.ref (Q15_4 37), .ref (Q15_4 35)]
  have S_5 : zst 38 (z_upR MR 35 0 (some 36)) MI ML := S_3.le (by decide)
  refine v_putF K hI fp_X5_15 (fun _ => ⟨rfl, rfl⟩) (by decide) rfl rfl dX5_init_17 ?_
  show V X (2, 23) 38 Q15_4 (z_upR (z_upR MR 35 0 (some 36)) 35 1 (some 37)) MI ML 20 [(0, .ref (Q15_4 35))] []
  have S_6 : zst 38 (z_upR (z_upR MR 35 0 (some 36)) 35 1 (some 37)) MI ML := S_5.ref (by decide) (by decide)
  refine v_aload_n K 0 dX5_init_20 rfl rfl ?_
  refine v_bipush K dX5_init_21 (by decide) ?_
  refine v_newi K 10 rfl (by decide) ac_int S_6 rfl rfl (Nat.le_of_ble_eq_true rfl) (Nat.le_of_ble_eq_true rfl) (fun Q8 => [(0, .ref (Q8 35))]) (fun Q8 => [.ref (Q8 35)]) (fun Q9 h9 => ⟨by simp only [h9 35 (by decide)], by simp only [h9 35 (by decide)]⟩) dX5_init_23 (fun Q23_7 a23_7 => ?_)
  show V X (3, 33) 39 Q23_7 (z_upR (z_upR MR 35 0 (some 36)) 35 1 (some 37)) MI ML 25 [(0, .ref (Q23_7 35))] [.ref (Q23_7 38), .ref (Q23_7 35)]
  have S_8 : zst 39 (z_upR (z_upR MR 35 0 (some 36)) 35 1 (some 37)) MI ML := S_6.le (by decide)
  refine v_putF K hI fp_X5_18 (fun _ => ⟨rfl, rfl⟩) (by decide) rfl rfl dX5_init_25 ?_
  show V X (3, 33) 39 Q23_7 (z_upR (z_upR (z_upR MR 35 0 (some 36)) 35 1 (some 37)) 35 2 (some 38)) MI ML 28 [(0, .ref (Q23_7 35))] []
  have S_9 : zst 39 (z_upR (z_upR (z_upR MR 35 0 (some 36)) 35 1 (some 37)) 35 2 (some 38)) MI ML := S_8.ref (by decide) (by decide)
  exact v_ret K E dX5_init_28 ⟨rfl, rfl, ((((agr.rf _ _).tr a7_1 (by decide)).tr a15_4 (by decide)).tr a23_7 (by decide)), rfl, rfl, rfl, S_9⟩
def L_X5_init_39 : List (Nat × Nat × Nat) := [(39, 0, 40), (39, 1, 41), (39, 2, 42)]
set_option maxRecDepth 100000 in
set_option maxHeartbeats 4000000 in
theorem c_X5_init_39 {l : Launch} {D : va_G} {Z : ZC} {Q : Nat → Nat} {MR : ZR} {MI ML : ZM} (S : zst 40 MR MI ML) : CMg l yX5_init cX5_init 1 none 1 12 3 33 D Z 40 Q MR [.ref (Q 39)] MI ML (fun v n' Q' MR' MI' ML' => v = none ∧ n' = 43 ∧ agr 40 Q Q' ∧ MR' = rfL L_X5_init_39 MR ∧ MI' = MI ∧ ML' = ML ∧ zst 43 MR' MI' ML') := by
  refine CMg.of (by decide +kernel) rfl (Nat.le_of_ble_eq_true rfl) ?_
  intro X K E _ _ _ hN hI
  show V X (0, 0) 40 Q MR MI ML 0 [(0, .ref (Q 39))] []
  refine v_aload_n K 0 dX5_init_0 rfl rfl ?_
  refine v_objI K ob_X5_3 ob_m ob_c (by decide) (by decide) dX5_init_1 ?_
  refine v_aload_n K 0 dX5_init_4 rfl rfl ?_
  refine v_bipush K dX5_init_5 (by decide) ?_
  refine v_newi K 10 rfl (by decide) ac_int S rfl rfl (Nat.le_of_ble_eq_true rfl) (Nat.le_of_ble_eq_true rfl) (fun Q8 => [(0, .ref (Q8 39))]) (fun Q8 => [.ref (Q8 39)]) (fun Q9 h9 => ⟨by simp only [h9 39 (by decide)], by simp only [h9 39 (by decide)]⟩) dX5_init_7 (fun Q7_1 a7_1 => ?_)
  show V X (1, 10) 41 Q7_1 MR MI ML 9 [(0, .ref (Q7_1 39))] [.ref (Q7_1 40), .ref (Q7_1 39)]
  have S_2 : zst 41 MR MI ML := S.le (by decide)
  refine v_putF K hI fp_X5_9 (fun _ => ⟨rfl, rfl⟩) (by decide) rfl rfl dX5_init_9 ?_
  show V X (1, 10) 41 Q7_1 (z_upR MR 39 0 (some 40)) MI ML 12 [(0, .ref (Q7_1 39))] []
  have S_3 : zst 41 (z_upR MR 39 0 (some 40)) MI ML := S_2.ref (by decide) (by decide)
  refine v_aload_n K 0 dX5_init_12 rfl rfl ?_
  refine v_bipush K dX5_init_13 (by decide) ?_
  refine v_newi K 13 rfl (by decide) ac_int S_3 rfl rfl (Nat.le_of_ble_eq_true rfl) (Nat.le_of_ble_eq_true rfl) (fun Q8 => [(0, .ref (Q8 39))]) (fun Q8 => [.ref (Q8 39)]) (fun Q9 h9 => ⟨by simp only [h9 39 (by decide)], by simp only [h9 39 (by decide)]⟩) dX5_init_15 (fun Q15_4 a15_4 => ?_)
  show V X (2, 23) 42 Q15_4 (z_upR MR 39 0 (some 40)) MI ML 17 [(0, .ref (Q15_4 39))] [.ref (Q15_4 41), .ref (Q15_4 39)]
  have S_5 : zst 42 (z_upR MR 39 0 (some 40)) MI ML := S_3.le (by decide)
  refine v_putF K hI fp_X5_15 (fun _ => ⟨rfl, rfl⟩) (by decide) rfl rfl dX5_init_17 ?_
  show V X (2, 23) 42 Q15_4 (z_upR (z_upR MR 39 0 (some 40)) 39 1 (some 41)) MI ML 20 [(0, .ref (Q15_4 39))] []
  have S_6 : zst 42 (z_upR (z_upR MR 39 0 (some 40)) 39 1 (some 41)) MI ML := S_5.ref (by decide) (by decide)
  refine v_aload_n K 0 dX5_init_20 rfl rfl ?_
  refine v_bipush K dX5_init_21 (by decide) ?_
  refine v_newi K 10 rfl (by decide) ac_int S_6 rfl rfl (Nat.le_of_ble_eq_true rfl) (Nat.le_of_ble_eq_true rfl) (fun Q8 => [(0, .ref (Q8 39))]) (fun Q8 => [.ref (Q8 39)]) (fun Q9 h9 => ⟨by simp only [h9 39 (by decide)], by simp only [h9 39 (by decide)]⟩) dX5_init_23 (fun Q23_7 a23_7 => ?_)
  show V X (3, 33) 43 Q23_7 (z_upR (z_upR MR 39 0 (some 40)) 39 1 (some 41)) MI ML 25 [(0, .ref (Q23_7 39))] [.ref (Q23_7 42), .ref (Q23_7 39)]
  have S_8 : zst 43 (z_upR (z_upR MR 39 0 (some 40)) 39 1 (some 41)) MI ML := S_6.le (by decide)
  refine v_putF K hI fp_X5_18 (fun _ => ⟨rfl, rfl⟩) (by decide) rfl rfl dX5_init_25 ?_
  show V X (3, 33) 43 Q23_7 (z_upR (z_upR (z_upR MR 39 0 (some 40)) 39 1 (some 41)) 39 2 (some 42)) MI ML 28 [(0, .ref (Q23_7 39))] []
  have S_9 : zst 43 (z_upR (z_upR (z_upR MR 39 0 (some 40)) 39 1 (some 41)) 39 2 (some 42)) MI ML := S_8.ref (by decide) (by decide)
  exact v_ret K E dX5_init_28 ⟨rfl, rfl, ((((agr.rf _ _).tr a7_1 (by decide)).tr a15_4 (by decide)).tr a23_7 (by decide)), rfl, rfl, rfl, S_9⟩
def L_X5_init_43 : List (Nat × Nat × Nat) := [(43, 0, 44), (43, 1, 45), (43, 2, 46)]
set_option maxRecDepth 100000 in
set_option maxHeartbeats 4000000 in
theorem c_X5_init_43 {l : Launch} {D : va_G} {Z : ZC} {Q : Nat → Nat} {MR : ZR} {MI ML : ZM} (S : zst 44 MR MI ML) : CMg l yX5_init cX5_init 1 none 1 12 3 33 D Z 44 Q MR [.ref (Q 43)] MI ML (fun v n' Q' MR' MI' ML' => v = none ∧ n' = 47 ∧ agr 44 Q Q' ∧ MR' = rfL L_X5_init_43 MR ∧ MI' = MI ∧ ML' = ML ∧ zst 47 MR' MI' ML') := by
  refine CMg.of (by decide +kernel) rfl (Nat.le_of_ble_eq_true rfl) ?_
  intro X K E _ _ _ hN hI
  show V X (0, 0) 44 Q MR MI ML 0 [(0, .ref (Q 43))] []
  refine v_aload_n K 0 dX5_init_0 rfl rfl ?_
  refine v_objI K ob_X5_3 ob_m ob_c (by decide) (by decide) dX5_init_1 ?_
  refine v_aload_n K 0 dX5_init_4 rfl rfl ?_
  refine v_bipush K dX5_init_5 (by decide) ?_
  refine v_newi K 10 rfl (by decide) ac_int S rfl rfl (Nat.le_of_ble_eq_true rfl) (Nat.le_of_ble_eq_true rfl) (fun Q8 => [(0, .ref (Q8 43))]) (fun Q8 => [.ref (Q8 43)]) (fun Q9 h9 => ⟨by simp only [h9 43 (by decide)], by simp only [h9 43 (by decide)]⟩) dX5_init_7 (fun Q7_1 a7_1 => ?_)
  show V X (1, 10) 45 Q7_1 MR MI ML 9 [(0, .ref (Q7_1 43))] [.ref (Q7_1 44), .ref (Q7_1 43)]
  have S_2 : zst 45 MR MI ML := S.le (by decide)
  refine v_putF K hI fp_X5_9 (fun _ => ⟨rfl, rfl⟩) (by decide) rfl rfl dX5_init_9 ?_
  show V X (1, 10) 45 Q7_1 (z_upR MR 43 0 (some 44)) MI ML 12 [(0, .ref (Q7_1 43))] []
  have S_3 : zst 45 (z_upR MR 43 0 (some 44)) MI ML := S_2.ref (by decide) (by decide)
  refine v_aload_n K 0 dX5_init_12 rfl rfl ?_
  refine v_bipush K dX5_init_13 (by decide) ?_
  refine v_newi K 13 rfl (by decide) ac_int S_3 rfl rfl (Nat.le_of_ble_eq_true rfl) (Nat.le_of_ble_eq_true rfl) (fun Q8 => [(0, .ref (Q8 43))]) (fun Q8 => [.ref (Q8 43)]) (fun Q9 h9 => ⟨by simp only [h9 43 (by decide)], by simp only [h9 43 (by decide)]⟩) dX5_init_15 (fun Q15_4 a15_4 => ?_)
  show V X (2, 23) 46 Q15_4 (z_upR MR 43 0 (some 44)) MI ML 17 [(0, .ref (Q15_4 43))] [.ref (Q15_4 45), .ref (Q15_4 43)]
  have S_5 : zst 46 (z_upR MR 43 0 (some 44)) MI ML := S_3.le (by decide)
  refine v_putF K hI fp_X5_15 (fun _ => ⟨rfl, rfl⟩) (by decide) rfl rfl dX5_init_17 ?_
  show V X (2, 23) 46 Q15_4 (z_upR (z_upR MR 43 0 (some 44)) 43 1 (some 45)) MI ML 20 [(0, .ref (Q15_4 43))] []
  have S_6 : zst 46 (z_upR (z_upR MR 43 0 (some 44)) 43 1 (some 45)) MI ML := S_5.ref (by decide) (by decide)
  refine v_aload_n K 0 dX5_init_20 rfl rfl ?_
  refine v_bipush K dX5_init_21 (by decide) ?_
  refine v_newi K 10 rfl (by decide) ac_int S_6 rfl rfl (Nat.le_of_ble_eq_true rfl) (Nat.le_of_ble_eq_true rfl) (fun Q8 => [(0, .ref (Q8 43))]) (fun Q8 => [.ref (Q8 43)]) (fun Q9 h9 => ⟨by simp only [h9 43 (by decide)], by simp only [h9 43 (by decide)]⟩) dX5_init_23 (fun Q23_7 a23_7 => ?_)
  show V X (3, 33) 47 Q23_7 (z_upR (z_upR MR 43 0 (some 44)) 43 1 (some 45)) MI ML 25 [(0, .ref (Q23_7 43))] [.ref (Q23_7 46), .ref (Q23_7 43)]
  have S_8 : zst 47 (z_upR (z_upR MR 43 0 (some 44)) 43 1 (some 45)) MI ML := S_6.le (by decide)
  refine v_putF K hI fp_X5_18 (fun _ => ⟨rfl, rfl⟩) (by decide) rfl rfl dX5_init_25 ?_
  show V X (3, 33) 47 Q23_7 (z_upR (z_upR (z_upR MR 43 0 (some 44)) 43 1 (some 45)) 43 2 (some 46)) MI ML 28 [(0, .ref (Q23_7 43))] []
  have S_9 : zst 47 (z_upR (z_upR (z_upR MR 43 0 (some 44)) 43 1 (some 45)) 43 2 (some 46)) MI ML := S_8.ref (by decide) (by decide)
  exact v_ret K E dX5_init_28 ⟨rfl, rfl, ((((agr.rf _ _).tr a7_1 (by decide)).tr a15_4 (by decide)).tr a23_7 (by decide)), rfl, rfl, rfl, S_9⟩
def L_X5_init_47 : List (Nat × Nat × Nat) := [(47, 0, 48), (47, 1, 49), (47, 2, 50)]
set_option maxRecDepth 100000 in
set_option maxHeartbeats 4000000 in
theorem c_X5_init_47 {l : Launch} {D : va_G} {Z : ZC} {Q : Nat → Nat} {MR : ZR} {MI ML : ZM} (S : zst 48 MR MI ML) : CMg l yX5_init cX5_init 1 none 1 12 3 33 D Z 48 Q MR [.ref (Q 47)] MI ML (fun v n' Q' MR' MI' ML' => v = none ∧ n' = 51 ∧ agr 48 Q Q' ∧ MR' = rfL L_X5_init_47 MR ∧ MI' = MI ∧ ML' = ML ∧ zst 51 MR' MI' ML') := by
  refine CMg.of (by decide +kernel) rfl (Nat.le_of_ble_eq_true rfl) ?_
  intro X K E _ _ _ hN hI
  show V X (0, 0) 48 Q MR MI ML 0 [(0, .ref (Q 47))] []
  refine v_aload_n K 0 dX5_init_0 rfl rfl ?_
  refine v_objI K ob_X5_3 ob_m ob_c (by decide) (by decide) dX5_init_1 ?_
  refine v_aload_n K 0 dX5_init_4 rfl rfl ?_
  refine v_bipush K dX5_init_5 (by decide) ?_
  refine v_newi K 10 rfl (by decide) ac_int S rfl rfl (Nat.le_of_ble_eq_true rfl) (Nat.le_of_ble_eq_true rfl) (fun Q8 => [(0, .ref (Q8 47))]) (fun Q8 => [.ref (Q8 47)]) (fun Q9 h9 => ⟨by simp only [h9 47 (by decide)], by simp only [h9 47 (by decide)]⟩) dX5_init_7 (fun Q7_1 a7_1 => ?_)
  show V X (1, 10) 49 Q7_1 MR MI ML 9 [(0, .ref (Q7_1 47))] [.ref (Q7_1 48), .ref (Q7_1 47)]
  have S_2 : zst 49 MR MI ML := S.le (by decide)
  refine v_putF K hI fp_X5_9 (fun _ => ⟨rfl, rfl⟩) (by decide) rfl rfl dX5_init_9 ?_
  show V X (1, 10) 49 Q7_1 (z_upR MR 47 0 (some 48)) MI ML 12 [(0, .ref (Q7_1 47))] []
  have S_3 : zst 49 (z_upR MR 47 0 (some 48)) MI ML := S_2.ref (by decide) (by decide)
  refine v_aload_n K 0 dX5_init_12 rfl rfl ?_
  refine v_bipush K dX5_init_13 (by decide) ?_
  refine v_newi K 13 rfl (by decide) ac_int S_3 rfl rfl (Nat.le_of_ble_eq_true rfl) (Nat.le_of_ble_eq_true rfl) (fun Q8 => [(0, .ref (Q8 47))]) (fun Q8 => [.ref (Q8 47)]) (fun Q9 h9 => ⟨by simp only [h9 47 (by decide)], by simp only [h9 47 (by decide)]⟩) dX5_init_15 (fun Q15_4 a15_4 => ?_)
  show V X (2, 23) 50 Q15_4 (z_upR MR 47 0 (some 48)) MI ML 17 [(0, .ref (Q15_4 47))] [.ref (Q15_4 49), .ref (Q15_4 47)]
  have S_5 : zst 50 (z_upR MR 47 0 (some 48)) MI ML := S_3.le (by decide)
  refine v_putF K hI fp_X5_15 (fun _ => ⟨rfl, rfl⟩) (by decide) rfl rfl dX5_init_17 ?_
  show V X (2, 23) 50 Q15_4 (z_upR (z_upR MR 47 0 (some 48)) 47 1 (some 49)) MI ML 20 [(0, .ref (Q15_4 47))] []
  have S_6 : zst 50 (z_upR (z_upR MR 47 0 (some 48)) 47 1 (some 49)) MI ML := S_5.ref (by decide) (by decide)
  refine v_aload_n K 0 dX5_init_20 rfl rfl ?_
  refine v_bipush K dX5_init_21 (by decide) ?_
  refine v_newi K 10 rfl (by decide) ac_int S_6 rfl rfl (Nat.le_of_ble_eq_true rfl) (Nat.le_of_ble_eq_true rfl) (fun Q8 => [(0, .ref (Q8 47))]) (fun Q8 => [.ref (Q8 47)]) (fun Q9 h9 => ⟨by simp only [h9 47 (by decide)], by simp only [h9 47 (by decide)]⟩) dX5_init_23 (fun Q23_7 a23_7 => ?_)
  show V X (3, 33) 51 Q23_7 (z_upR (z_upR MR 47 0 (some 48)) 47 1 (some 49)) MI ML 25 [(0, .ref (Q23_7 47))] [.ref (Q23_7 50), .ref (Q23_7 47)]
  have S_8 : zst 51 (z_upR (z_upR MR 47 0 (some 48)) 47 1 (some 49)) MI ML := S_6.le (by decide)
  refine v_putF K hI fp_X5_18 (fun _ => ⟨rfl, rfl⟩) (by decide) rfl rfl dX5_init_25 ?_
  show V X (3, 33) 51 Q23_7 (z_upR (z_upR (z_upR MR 47 0 (some 48)) 47 1 (some 49)) 47 2 (some 50)) MI ML 28 [(0, .ref (Q23_7 47))] []
  have S_9 : zst 51 (z_upR (z_upR (z_upR MR 47 0 (some 48)) 47 1 (some 49)) 47 2 (some 50)) MI ML := S_8.ref (by decide) (by decide)
  exact v_ret K E dX5_init_28 ⟨rfl, rfl, ((((agr.rf _ _).tr a7_1 (by decide)).tr a15_4 (by decide)).tr a23_7 (by decide)), rfl, rfl, rfl, S_9⟩
def L_X1_init_19 : List (Nat × Nat × Nat) := [(19, 0, 20), (21, 0, 22), (21, 1, 23), (21, 2, 24), (21, 3, 25), (21, 4, 26), (19, 1, 21), (27, 0, 28), (27, 2, 29), (27, 4, 30), (19, 2, 27), (31, 0, 32), (31, 1, 33), (31, 2, 34), (20, 0, 31), (35, 0, 36), (35, 1, 37), (35, 2, 38), (20, 1, 35), (39, 0, 40), (39, 1, 41), (39, 2, 42), (20, 2, 39), (43, 0, 44), (43, 1, 45), (43, 2, 46), (20, 3, 43), (47, 0, 48), (47, 1, 49), (47, 2, 50), (20, 4, 47)]
set_option maxRecDepth 100000 in
set_option maxHeartbeats 4000000 in
theorem c_X1_init_19 {l : Launch} {D : va_G} {Z : ZC} {Q : Nat → Nat} {MR : ZR} {MI ML : ZM} (S : zst 20 MR MI ML) : CMg l yX1_init cX1_init 2 none 2 32 31 1270 D Z 20 Q MR [.ref (Q 19)] MI ML (fun v n' Q' MR' MI' ML' => v = none ∧ n' = 51 ∧ agr 20 Q Q' ∧ MR' = rfL L_X1_init_19 MR ∧ MI' = MI ∧ ML' = ML ∧ zst 51 MR' MI' ML') := by
  refine CMg.of (by decide +kernel) rfl (Nat.le_of_ble_eq_true rfl) ?_
  intro X K E _ _ _ hN hI
  show V X (0, 0) 20 Q MR MI ML 0 [(0, .ref (Q 19))] []
  refine v_aload_n K 0 dX1_init_0 rfl rfl ?_
  refine v_objI K ob_X1_3 ob_m ob_c (by decide) (by decide) dX1_init_1 ?_
  refine v_aload_n K 0 dX1_init_4 rfl rfl ?_
  refine v_iconst K dX1_init_5 ?_
  refine v_newqP K 5 rfl (by decide) cl_X1_9 S rfl rfl (Nat.le_of_ble_eq_true rfl) (Nat.le_of_ble_eq_true rfl) (fun Q8 => [(0, .ref (Q8 19))]) (fun Q8 => [.ref (Q8 19)]) (fun Q9 h9 => ⟨by simp only [h9 19 (by decide)], by simp only [h9 19 (by decide)]⟩) dX1_init_6 (fun Q6_1 a6_1 => ?_)
  show V X (1, 5) 21 Q6_1 MR MI ML 9 [(0, .ref (Q6_1 19))] [.ref (Q6_1 20), .ref (Q6_1 19)]
  have S_2 : zst 21 MR MI ML := S.le (by decide)
  refine v_putF K hI fp_X1_11 (fun _ => ⟨rfl, rfl⟩) (by decide) rfl rfl dX1_init_9 ?_
  show V X (1, 5) 21 Q6_1 (z_upR MR 19 0 (some 20)) MI ML 12 [(0, .ref (Q6_1 19))] []
  have S_3 : zst 21 (z_upR MR 19 0 (some 20)) MI ML := S_2.ref (by decide) (by decide)
  refine v_aload_n K 0 dX1_init_12 rfl rfl ?_
  refine v_iconst K dX1_init_13 ?_
  refine v_iconst K dX1_init_14 ?_
  refine v_multi K cl_X1_17 ac_int S_3 (by decide +kernel) (by decide +kernel) (Nat.le_of_ble_eq_true rfl) (Nat.le_of_ble_eq_true rfl) (fun Q8 => [(0, .ref (Q8 19))]) (fun Q8 => [.ref (Q8 19)]) (fun Q9 h9 => ⟨by simp only [h9 19 (by decide)], by simp only [h9 19 (by decide)]⟩) dX1_init_15 (fun Q15_4 a15_4 => ?_)
  show V X (7, 35) 27 Q15_4 (rfL (mrow 21) (z_upR MR 19 0 (some 20))) MI ML 19 [(0, .ref (Q15_4 19))] [.ref (Q15_4 21), .ref (Q15_4 19)]
  have S_5 : zst 27 (rfL (mrow 21) (z_upR MR 19 0 (some 20))) MI ML := zst_multi S_3
  refine v_putF K hI fp_X1_19 (fun _ => ⟨rfl, rfl⟩) (by decide) rfl rfl dX1_init_19 ?_
  show V X (7, 35) 27 Q15_4 (z_upR (rfL (mrow 21) (z_upR MR 19 0 (some 20))) 19 1 (some 21)) MI ML 22 [(0, .ref (Q15_4 19))] []
  have S_6 : zst 27 (z_upR (rfL (mrow 21) (z_upR MR 19 0 (some 20))) 19 1 (some 21)) MI ML := S_5.ref (by decide) (by decide)
  refine v_aload_n K 0 dX1_init_22 rfl rfl ?_
  refine v_new K fn_X1_22 S_6 rfl rfl (Nat.le_of_ble_eq_true rfl) (Nat.le_of_ble_eq_true rfl) (fun Q8 => [(0, .ref (Q8 19))]) (fun Q8 => [.ref (Q8 19)]) (fun Q9 h9 => ⟨by simp only [h9 19 (by decide)], by simp only [h9 19 (by decide)]⟩) dX1_init_23 (fun Q23_7 a23_7 => ?_)
  show V X (8, 41) 28 Q23_7 (z_upR (rfL (mrow 21) (z_upR MR 19 0 (some 20))) 19 1 (some 21)) MI ML 26 [(0, .ref (Q23_7 19))] [.ref (Q23_7 27), .ref (Q23_7 19)]
  have S_8 : zst 28 (z_upR (rfL (mrow 21) (z_upR MR 19 0 (some 20))) 19 1 (some 21)) MI ML := S_6.le (by decide)
  refine v_dup K dX1_init_26 rfl ?_
  refine v_callN K hN (c_X4_init_27 S_8) rfl wc_X4_init (by decide +kernel) wi_X4 (by decide +kernel) wm_X4_init rfl rfl ⟨Nat.le_of_ble_eq_true rfl, Nat.le_of_ble_eq_true rfl, Nat.le_of_ble_eq_true rfl, Nat.le_of_ble_eq_true rfl⟩ (Nat.le_of_ble_eq_true rfl) dX1_init_27 (fun v9 n9 Q27_9 MR9 MI9 ML9 h9 => ?_)
  obtain ⟨e1, e2, a27_9, e3, e4, e5, S_10⟩ := h9
  subst e1; subst e2
  have e3 := e3.symm
  subst e3
  have e4 := e4.symm
  subst e4
  have e5 := e5.symm
  subst e5
  rw [← a27_9 19 (by decide), ← a27_9 27 (by decide)]
  show V X (11, 1075) 31 Q27_9 (rfL L_X4_init_27 (z_upR (rfL (mrow 21) (z_upR MR 19 0 (some 20))) 19 1 (some 21))) MI ML 30 [(0, .ref (Q27_9 19))] [.ref (Q27_9 27), .ref (Q27_9 19)]
  refine v_putF K hI fp_X1_25 (fun _ => ⟨rfl, rfl⟩) (by decide) rfl rfl dX1_init_30 ?_
  show V X (11, 1075) 31 Q27_9 (z_upR (rfL L_X4_init_27 (z_upR (rfL (mrow 21) (z_upR MR 19 0 (some 20))) 19 1 (some 21))) 19 2 (some 27)) MI ML 33 [(0, .ref (Q27_9 19))] []
  have S_11 : zst 31 (z_upR (rfL L_X4_init_27 (z_upR (rfL (mrow 21) (z_upR MR 19 0 (some 20))) 19 1 (some 21))) 19 2 (some 27)) MI ML := S_10.ref (by decide) (by decide)
  refine v_iconst K dX1_init_33 ?_
  refine v_istore_n K (fun q9 => [(1, .int (iI q9)), (0, .ref (Q27_9 19))]) dX1_init_34 rfl (by decide) (fun _ => rfl) (fun x12 hx12 => ?_)
  obtain rfl : x12 = 0 := hx12
  refine v_iload_n K 0 dX1_init_35 rfl rfl ?_
  refine v_iconst K dX1_init_36 ?_
  refine v_icmp_ge K 59 ⟨by decide, by decide⟩ ⟨by decide, by decide⟩ dX1_init_37 (by decide) (fun h9 => ?_) (fun h9 => ?_)
  · exact absurd h9 (by decide)
  show V X (11, 1075) 31 Q27_9 (z_upR (rfL L_X4_init_27 (z_upR (rfL (mrow 21) (z_upR MR 19 0 (some 20))) 19 1 (some 21))) 19 2 (some 27)) MI ML 40 [(1, .int (iI 0)), (0, .ref (Q27_9 19))] []
  refine v_aload_n K 1 dX1_init_40 rfl rfl ?_
  refine v_getr K ff_X1_11 (by decide) rfl rfl (by rfl) dX1_init_41 ?_
  refine v_iload_n K 0 dX1_init_44 rfl rfl ?_
  refine v_new K fn_X1_9 S_11 rfl rfl (Nat.le_of_ble_eq_true rfl) (Nat.le_of_ble_eq_true rfl) (fun Q8 => [(1, .int (iI 0)), (0, .ref (Q8 19))]) (fun Q8 => [.int (iI 0), .ref (Q8 20)]) (fun Q9 h9 => ⟨by simp only [h9 19 (by decide)], by simp only [h9 20 (by decide)]⟩) dX1_init_45 (fun Q45_13 a45_13 => ?_)
  show V X (12, 1081) 32 Q45_13 (z_upR (rfL L_X4_init_27 (z_upR (rfL (mrow 21) (z_upR MR 19 0 (some 20))) 19 1 (some 21))) 19 2 (some 27)) MI ML 48 [(1, .int (iI 0)), (0, .ref (Q45_13 19))] [.ref (Q45_13 31), .int (iI 0), .ref (Q45_13 20)]
  have S_14 : zst 32 (z_upR (rfL L_X4_init_27 (z_upR (rfL (mrow 21) (z_upR MR 19 0 (some 20))) 19 1 (some 21))) 19 2 (some 27)) MI ML := S_11.le (by decide)
  refine v_dup K dX1_init_48 rfl ?_
  refine v_callN K hN (c_X5_init_31 S_14) rfl wc_X5_init (by decide +kernel) wi_X5 (by decide +kernel) wm_X5_init rfl rfl ⟨Nat.le_of_ble_eq_true rfl, Nat.le_of_ble_eq_true rfl, Nat.le_of_ble_eq_true rfl, Nat.le_of_ble_eq_true rfl⟩ (Nat.le_of_ble_eq_true rfl) dX1_init_49 (fun v9 n9 Q49_15 MR9 MI9 ML9 h9 => ?_)
  obtain ⟨e1, e2, a49_15, e3, e4, e5, S_16⟩ := h9
  subst e1; subst e2
  have e3 := e3.symm
  subst e3
  have e4 := e4.symm
  subst e4
  have e5 := e5.symm
  subst e5
  rw [← a49_15 19 (by decide), ← a49_15 20 (by decide), ← a49_15 31 (by decide)]
  show V X (15, 1114) 35 Q49_15 (rfL L_X5_init_31 (z_upR (rfL L_X4_init_27 (z_upR (rfL (mrow 21) (z_upR MR 19 0 (some 20))) 19 1 (some 21))) 19 2 (some 27))) MI ML 52 [(1, .int (iI 0)), (0, .ref (Q49_15 19))] [.ref (Q49_15 31), .int (iI 0), .ref (Q49_15 20)]
  refine v_aastP K 0 (by decide) rfl (by decide) rfl rfl (by decide) dX1_init_52 ?_
  show V X (15, 1114) 35 Q49_15 (z_upR (rfL L_X5_init_31 (z_upR (rfL L_X4_init_27 (z_upR (rfL (mrow 21) (z_upR MR 19 0 (some 20))) 19 1 (some 21))) 19 2 (some 27))) 20 0 (some 31)) MI ML 53 [(1, .int (iI 0)), (0, .ref (Q49_15 19))] []
  have S_17 : zst 35 (z_upR (rfL L_X5_init_31 (z_upR (rfL L_X4_init_27 (z_upR (rfL (mrow 21) (z_upR MR 19 0 (some 20))) 19 1 (some 21))) 19 2 (some 27))) 20 0 (some 31)) MI ML := S_16.ref (by decide) (by decide)
  refine v_iinc K 0 (fun q9 => [(1, .int (iI q9)), (0, .ref (Q49_15 19))]) dX1_init_53 rfl (by decide) (fun _ => rfl) (fun x18 hx18 => ?_)
  obtain rfl : x18 = 1 := hx18
  refine v_goto K 35 dX1_init_56 (by decide) ?_
  refine v_iload_n K 0 dX1_init_35 rfl rfl ?_
  refine v_iconst K dX1_init_36 ?_
  refine v_icmp_ge K 59 ⟨by decide, by decide⟩ ⟨by decide, by decide⟩ dX1_init_37 (by decide) (fun h9 => ?_) (fun h9 => ?_)
  · exact absurd h9 (by decide)
  show V X (15, 1114) 35 Q49_15 (z_upR (rfL L_X5_init_31 (z_upR (rfL L_X4_init_27 (z_upR (rfL (mrow 21) (z_upR MR 19 0 (some 20))) 19 1 (some 21))) 19 2 (some 27))) 20 0 (some 31)) MI ML 40 [(1, .int (iI 1)), (0, .ref (Q49_15 19))] []
  refine v_aload_n K 1 dX1_init_40 rfl rfl ?_
  refine v_getr K ff_X1_11 (by decide) rfl rfl (by rfl) dX1_init_41 ?_
  refine v_iload_n K 0 dX1_init_44 rfl rfl ?_
  refine v_new K fn_X1_9 S_17 rfl rfl (Nat.le_of_ble_eq_true rfl) (Nat.le_of_ble_eq_true rfl) (fun Q8 => [(1, .int (iI 1)), (0, .ref (Q8 19))]) (fun Q8 => [.int (iI 1), .ref (Q8 20)]) (fun Q9 h9 => ⟨by simp only [h9 19 (by decide)], by simp only [h9 20 (by decide)]⟩) dX1_init_45 (fun Q45_19 a45_19 => ?_)
  show V X (16, 1120) 36 Q45_19 (z_upR (rfL L_X5_init_31 (z_upR (rfL L_X4_init_27 (z_upR (rfL (mrow 21) (z_upR MR 19 0 (some 20))) 19 1 (some 21))) 19 2 (some 27))) 20 0 (some 31)) MI ML 48 [(1, .int (iI 1)), (0, .ref (Q45_19 19))] [.ref (Q45_19 35), .int (iI 1), .ref (Q45_19 20)]
  have S_20 : zst 36 (z_upR (rfL L_X5_init_31 (z_upR (rfL L_X4_init_27 (z_upR (rfL (mrow 21) (z_upR MR 19 0 (some 20))) 19 1 (some 21))) 19 2 (some 27))) 20 0 (some 31)) MI ML := S_17.le (by decide)
  refine v_dup K dX1_init_48 rfl ?_
  refine v_callN K hN (c_X5_init_35 S_20) rfl wc_X5_init (by decide +kernel) wi_X5 (by decide +kernel) wm_X5_init rfl rfl ⟨Nat.le_of_ble_eq_true rfl, Nat.le_of_ble_eq_true rfl, Nat.le_of_ble_eq_true rfl, Nat.le_of_ble_eq_true rfl⟩ (Nat.le_of_ble_eq_true rfl) dX1_init_49 (fun v9 n9 Q49_21 MR9 MI9 ML9 h9 => ?_)
  obtain ⟨e1, e2, a49_21, e3, e4, e5, S_22⟩ := h9
  subst e1; subst e2
  have e3 := e3.symm
  subst e3
  have e4 := e4.symm
  subst e4
  have e5 := e5.symm
  subst e5
  rw [← a49_21 19 (by decide), ← a49_21 20 (by decide), ← a49_21 35 (by decide)]
  show V X (19, 1153) 39 Q49_21 (rfL L_X5_init_35 (z_upR (rfL L_X5_init_31 (z_upR (rfL L_X4_init_27 (z_upR (rfL (mrow 21) (z_upR MR 19 0 (some 20))) 19 1 (some 21))) 19 2 (some 27))) 20 0 (some 31))) MI ML 52 [(1, .int (iI 1)), (0, .ref (Q49_21 19))] [.ref (Q49_21 35), .int (iI 1), .ref (Q49_21 20)]
  refine v_aastP K 1 (by decide) rfl (by decide) rfl rfl (by decide) dX1_init_52 ?_
  show V X (19, 1153) 39 Q49_21 (z_upR (rfL L_X5_init_35 (z_upR (rfL L_X5_init_31 (z_upR (rfL L_X4_init_27 (z_upR (rfL (mrow 21) (z_upR MR 19 0 (some 20))) 19 1 (some 21))) 19 2 (some 27))) 20 0 (some 31))) 20 1 (some 35)) MI ML 53 [(1, .int (iI 1)), (0, .ref (Q49_21 19))] []
  have S_23 : zst 39 (z_upR (rfL L_X5_init_35 (z_upR (rfL L_X5_init_31 (z_upR (rfL L_X4_init_27 (z_upR (rfL (mrow 21) (z_upR MR 19 0 (some 20))) 19 1 (some 21))) 19 2 (some 27))) 20 0 (some 31))) 20 1 (some 35)) MI ML := S_22.ref (by decide) (by decide)
  refine v_iinc K 0 (fun q9 => [(1, .int (iI q9)), (0, .ref (Q49_21 19))]) dX1_init_53 rfl (by decide) (fun _ => rfl) (fun x24 hx24 => ?_)
  obtain rfl : x24 = 2 := hx24
  refine v_goto K 35 dX1_init_56 (by decide) ?_
  refine v_iload_n K 0 dX1_init_35 rfl rfl ?_
  refine v_iconst K dX1_init_36 ?_
  refine v_icmp_ge K 59 ⟨by decide, by decide⟩ ⟨by decide, by decide⟩ dX1_init_37 (by decide) (fun h9 => ?_) (fun h9 => ?_)
  · exact absurd h9 (by decide)
  show V X (19, 1153) 39 Q49_21 (z_upR (rfL L_X5_init_35 (z_upR (rfL L_X5_init_31 (z_upR (rfL L_X4_init_27 (z_upR (rfL (mrow 21) (z_upR MR 19 0 (some 20))) 19 1 (some 21))) 19 2 (some 27))) 20 0 (some 31))) 20 1 (some 35)) MI ML 40 [(1, .int (iI 2)), (0, .ref (Q49_21 19))] []
  refine v_aload_n K 1 dX1_init_40 rfl rfl ?_
  refine v_getr K ff_X1_11 (by decide) rfl rfl (by rfl) dX1_init_41 ?_
  refine v_iload_n K 0 dX1_init_44 rfl rfl ?_
  refine v_new K fn_X1_9 S_23 rfl rfl (Nat.le_of_ble_eq_true rfl) (Nat.le_of_ble_eq_true rfl) (fun Q8 => [(1, .int (iI 2)), (0, .ref (Q8 19))]) (fun Q8 => [.int (iI 2), .ref (Q8 20)]) (fun Q9 h9 => ⟨by simp only [h9 19 (by decide)], by simp only [h9 20 (by decide)]⟩) dX1_init_45 (fun Q45_25 a45_25 => ?_)
  show V X (20, 1159) 40 Q45_25 (z_upR (rfL L_X5_init_35 (z_upR (rfL L_X5_init_31 (z_upR (rfL L_X4_init_27 (z_upR (rfL (mrow 21) (z_upR MR 19 0 (some 20))) 19 1 (some 21))) 19 2 (some 27))) 20 0 (some 31))) 20 1 (some 35)) MI ML 48 [(1, .int (iI 2)), (0, .ref (Q45_25 19))] [.ref (Q45_25 39), .int (iI 2), .ref (Q45_25 20)]
  have S_26 : zst 40 (z_upR (rfL L_X5_init_35 (z_upR (rfL L_X5_init_31 (z_upR (rfL L_X4_init_27 (z_upR (rfL (mrow 21) (z_upR MR 19 0 (some 20))) 19 1 (some 21))) 19 2 (some 27))) 20 0 (some 31))) 20 1 (some 35)) MI ML := S_23.le (by decide)
  refine v_dup K dX1_init_48 rfl ?_
  refine v_callN K hN (c_X5_init_39 S_26) rfl wc_X5_init (by decide +kernel) wi_X5 (by decide +kernel) wm_X5_init rfl rfl ⟨Nat.le_of_ble_eq_true rfl, Nat.le_of_ble_eq_true rfl, Nat.le_of_ble_eq_true rfl, Nat.le_of_ble_eq_true rfl⟩ (Nat.le_of_ble_eq_true rfl) dX1_init_49 (fun v9 n9 Q49_27 MR9 MI9 ML9 h9 => ?_)
  obtain ⟨e1, e2, a49_27, e3, e4, e5, S_28⟩ := h9
  subst e1; subst e2
  have e3 := e3.symm
  subst e3
  have e4 := e4.symm
  subst e4
  have e5 := e5.symm
  subst e5
  rw [← a49_27 19 (by decide), ← a49_27 20 (by decide), ← a49_27 39 (by decide)]
  show V X (23, 1192) 43 Q49_27 (rfL L_X5_init_39 (z_upR (rfL L_X5_init_35 (z_upR (rfL L_X5_init_31 (z_upR (rfL L_X4_init_27 (z_upR (rfL (mrow 21) (z_upR MR 19 0 (some 20))) 19 1 (some 21))) 19 2 (some 27))) 20 0 (some 31))) 20 1 (some 35))) MI ML 52 [(1, .int (iI 2)), (0, .ref (Q49_27 19))] [.ref (Q49_27 39), .int (iI 2), .ref (Q49_27 20)]
  refine v_aastP K 2 (by decide) rfl (by decide) rfl rfl (by decide) dX1_init_52 ?_
  show V X (23, 1192) 43 Q49_27 (z_upR (rfL L_X5_init_39 (z_upR (rfL L_X5_init_35 (z_upR (rfL L_X5_init_31 (z_upR (rfL L_X4_init_27 (z_upR (rfL (mrow 21) (z_upR MR 19 0 (some 20))) 19 1 (some 21))) 19 2 (some 27))) 20 0 (some 31))) 20 1 (some 35))) 20 2 (some 39)) MI ML 53 [(1, .int (iI 2)), (0, .ref (Q49_27 19))] []
  have S_29 : zst 43 (z_upR (rfL L_X5_init_39 (z_upR (rfL L_X5_init_35 (z_upR (rfL L_X5_init_31 (z_upR (rfL L_X4_init_27 (z_upR (rfL (mrow 21) (z_upR MR 19 0 (some 20))) 19 1 (some 21))) 19 2 (some 27))) 20 0 (some 31))) 20 1 (some 35))) 20 2 (some 39)) MI ML := S_28.ref (by decide) (by decide)
  refine v_iinc K 0 (fun q9 => [(1, .int (iI q9)), (0, .ref (Q49_27 19))]) dX1_init_53 rfl (by decide) (fun _ => rfl) (fun x30 hx30 => ?_)
  obtain rfl : x30 = 3 := hx30
  refine v_goto K 35 dX1_init_56 (by decide) ?_
  refine v_iload_n K 0 dX1_init_35 rfl rfl ?_
  refine v_iconst K dX1_init_36 ?_
  refine v_icmp_ge K 59 ⟨by decide, by decide⟩ ⟨by decide, by decide⟩ dX1_init_37 (by decide) (fun h9 => ?_) (fun h9 => ?_)
  · exact absurd h9 (by decide)
  show V X (23, 1192) 43 Q49_27 (z_upR (rfL L_X5_init_39 (z_upR (rfL L_X5_init_35 (z_upR (rfL L_X5_init_31 (z_upR (rfL L_X4_init_27 (z_upR (rfL (mrow 21) (z_upR MR 19 0 (some 20))) 19 1 (some 21))) 19 2 (some 27))) 20 0 (some 31))) 20 1 (some 35))) 20 2 (some 39)) MI ML 40 [(1, .int (iI 3)), (0, .ref (Q49_27 19))] []
  refine v_aload_n K 1 dX1_init_40 rfl rfl ?_
  refine v_getr K ff_X1_11 (by decide) rfl rfl (by rfl) dX1_init_41 ?_
  refine v_iload_n K 0 dX1_init_44 rfl rfl ?_
  refine v_new K fn_X1_9 S_29 rfl rfl (Nat.le_of_ble_eq_true rfl) (Nat.le_of_ble_eq_true rfl) (fun Q8 => [(1, .int (iI 3)), (0, .ref (Q8 19))]) (fun Q8 => [.int (iI 3), .ref (Q8 20)]) (fun Q9 h9 => ⟨by simp only [h9 19 (by decide)], by simp only [h9 20 (by decide)]⟩) dX1_init_45 (fun Q45_31 a45_31 => ?_)
  show V X (24, 1198) 44 Q45_31 (z_upR (rfL L_X5_init_39 (z_upR (rfL L_X5_init_35 (z_upR (rfL L_X5_init_31 (z_upR (rfL L_X4_init_27 (z_upR (rfL (mrow 21) (z_upR MR 19 0 (some 20))) 19 1 (some 21))) 19 2 (some 27))) 20 0 (some 31))) 20 1 (some 35))) 20 2 (some 39)) MI ML 48 [(1, .int (iI 3)), (0, .ref (Q45_31 19))] [.ref (Q45_31 43), .int (iI 3), .ref (Q45_31 20)]
  have S_32 : zst 44 (z_upR (rfL L_X5_init_39 (z_upR (rfL L_X5_init_35 (z_upR (rfL L_X5_init_31 (z_upR (rfL L_X4_init_27 (z_upR (rfL (mrow 21) (z_upR MR 19 0 (some 20))) 19 1 (some 21))) 19 2 (some 27))) 20 0 (some 31))) 20 1 (some 35))) 20 2 (some 39)) MI ML := S_29.le (by decide)
  refine v_dup K dX1_init_48 rfl ?_
  refine v_callN K hN (c_X5_init_43 S_32) rfl wc_X5_init (by decide +kernel) wi_X5 (by decide +kernel) wm_X5_init rfl rfl ⟨Nat.le_of_ble_eq_true rfl, Nat.le_of_ble_eq_true rfl, Nat.le_of_ble_eq_true rfl, Nat.le_of_ble_eq_true rfl⟩ (Nat.le_of_ble_eq_true rfl) dX1_init_49 (fun v9 n9 Q49_33 MR9 MI9 ML9 h9 => ?_)
  obtain ⟨e1, e2, a49_33, e3, e4, e5, S_34⟩ := h9
  subst e1; subst e2
  have e3 := e3.symm
  subst e3
  have e4 := e4.symm
  subst e4
  have e5 := e5.symm
  subst e5
  rw [← a49_33 19 (by decide), ← a49_33 20 (by decide), ← a49_33 43 (by decide)]
  show V X (27, 1231) 47 Q49_33 (rfL L_X5_init_43 (z_upR (rfL L_X5_init_39 (z_upR (rfL L_X5_init_35 (z_upR (rfL L_X5_init_31 (z_upR (rfL L_X4_init_27 (z_upR (rfL (mrow 21) (z_upR MR 19 0 (some 20))) 19 1 (some 21))) 19 2 (some 27))) 20 0 (some 31))) 20 1 (some 35))) 20 2 (some 39))) MI ML 52 [(1, .int (iI 3)), (0, .ref (Q49_33 19))] [.ref (Q49_33 43), .int (iI 3), .ref (Q49_33 20)]
  refine v_aastP K 3 (by decide) rfl (by decide) rfl rfl (by decide) dX1_init_52 ?_
  show V X (27, 1231) 47 Q49_33 (z_upR (rfL L_X5_init_43 (z_upR (rfL L_X5_init_39 (z_upR (rfL L_X5_init_35 (z_upR (rfL L_X5_init_31 (z_upR (rfL L_X4_init_27 (z_upR (rfL (mrow 21) (z_upR MR 19 0 (some 20))) 19 1 (some 21))) 19 2 (some 27))) 20 0 (some 31))) 20 1 (some 35))) 20 2 (some 39))) 20 3 (some 43)) MI ML 53 [(1, .int (iI 3)), (0, .ref (Q49_33 19))] []
  have S_35 : zst 47 (z_upR (rfL L_X5_init_43 (z_upR (rfL L_X5_init_39 (z_upR (rfL L_X5_init_35 (z_upR (rfL L_X5_init_31 (z_upR (rfL L_X4_init_27 (z_upR (rfL (mrow 21) (z_upR MR 19 0 (some 20))) 19 1 (some 21))) 19 2 (some 27))) 20 0 (some 31))) 20 1 (some 35))) 20 2 (some 39))) 20 3 (some 43)) MI ML := S_34.ref (by decide) (by decide)
  refine v_iinc K 0 (fun q9 => [(1, .int (iI q9)), (0, .ref (Q49_33 19))]) dX1_init_53 rfl (by decide) (fun _ => rfl) (fun x36 hx36 => ?_)
  obtain rfl : x36 = 4 := hx36
  refine v_goto K 35 dX1_init_56 (by decide) ?_
  refine v_iload_n K 0 dX1_init_35 rfl rfl ?_
  refine v_iconst K dX1_init_36 ?_
  refine v_icmp_ge K 59 ⟨by decide, by decide⟩ ⟨by decide, by decide⟩ dX1_init_37 (by decide) (fun h9 => ?_) (fun h9 => ?_)
  · exact absurd h9 (by decide)
  show V X (27, 1231) 47 Q49_33 (z_upR (rfL L_X5_init_43 (z_upR (rfL L_X5_init_39 (z_upR (rfL L_X5_init_35 (z_upR (rfL L_X5_init_31 (z_upR (rfL L_X4_init_27 (z_upR (rfL (mrow 21) (z_upR MR 19 0 (some 20))) 19 1 (some 21))) 19 2 (some 27))) 20 0 (some 31))) 20 1 (some 35))) 20 2 (some 39))) 20 3 (some 43)) MI ML 40 [(1, .int (iI 4)), (0, .ref (Q49_33 19))] []
  refine v_aload_n K 1 dX1_init_40 rfl rfl ?_
  refine v_getr K ff_X1_11 (by decide) rfl rfl (by rfl) dX1_init_41 ?_
  refine v_iload_n K 0 dX1_init_44 rfl rfl ?_
  refine v_new K fn_X1_9 S_35 rfl rfl (Nat.le_of_ble_eq_true rfl) (Nat.le_of_ble_eq_true rfl) (fun Q8 => [(1, .int (iI 4)), (0, .ref (Q8 19))]) (fun Q8 => [.int (iI 4), .ref (Q8 20)]) (fun Q9 h9 => ⟨by simp only [h9 19 (by decide)], by simp only [h9 20 (by decide)]⟩) dX1_init_45 (fun Q45_37 a45_37 => ?_)
  show V X (28, 1237) 48 Q45_37 (z_upR (rfL L_X5_init_43 (z_upR (rfL L_X5_init_39 (z_upR (rfL L_X5_init_35 (z_upR (rfL L_X5_init_31 (z_upR (rfL L_X4_init_27 (z_upR (rfL (mrow 21) (z_upR MR 19 0 (some 20))) 19 1 (some 21))) 19 2 (some 27))) 20 0 (some 31))) 20 1 (some 35))) 20 2 (some 39))) 20 3 (some 43)) MI ML 48 [(1, .int (iI 4)), (0, .ref (Q45_37 19))] [.ref (Q45_37 47), .int (iI 4), .ref (Q45_37 20)]
  have S_38 : zst 48 (z_upR (rfL L_X5_init_43 (z_upR (rfL L_X5_init_39 (z_upR (rfL L_X5_init_35 (z_upR (rfL L_X5_init_31 (z_upR (rfL L_X4_init_27 (z_upR (rfL (mrow 21) (z_upR MR 19 0 (some 20))) 19 1 (some 21))) 19 2 (some 27))) 20 0 (some 31))) 20 1 (some 35))) 20 2 (some 39))) 20 3 (some 43)) MI ML := S_35.le (by decide)
  refine v_dup K dX1_init_48 rfl ?_
  refine v_callN K hN (c_X5_init_47 S_38) rfl wc_X5_init (by decide +kernel) wi_X5 (by decide +kernel) wm_X5_init rfl rfl ⟨Nat.le_of_ble_eq_true rfl, Nat.le_of_ble_eq_true rfl, Nat.le_of_ble_eq_true rfl, Nat.le_of_ble_eq_true rfl⟩ (Nat.le_of_ble_eq_true rfl) dX1_init_49 (fun v9 n9 Q49_39 MR9 MI9 ML9 h9 => ?_)
  obtain ⟨e1, e2, a49_39, e3, e4, e5, S_40⟩ := h9
  subst e1; subst e2
  have e3 := e3.symm
  subst e3
  have e4 := e4.symm
  subst e4
  have e5 := e5.symm
  subst e5
  rw [← a49_39 19 (by decide), ← a49_39 20 (by decide), ← a49_39 47 (by decide)]
  show V X (31, 1270) 51 Q49_39 (rfL L_X5_init_47 (z_upR (rfL L_X5_init_43 (z_upR (rfL L_X5_init_39 (z_upR (rfL L_X5_init_35 (z_upR (rfL L_X5_init_31 (z_upR (rfL L_X4_init_27 (z_upR (rfL (mrow 21) (z_upR MR 19 0 (some 20))) 19 1 (some 21))) 19 2 (some 27))) 20 0 (some 31))) 20 1 (some 35))) 20 2 (some 39))) 20 3 (some 43))) MI ML 52 [(1, .int (iI 4)), (0, .ref (Q49_39 19))] [.ref (Q49_39 47), .int (iI 4), .ref (Q49_39 20)]
  refine v_aastP K 4 (by decide) rfl (by decide) rfl rfl (by decide) dX1_init_52 ?_
  show V X (31, 1270) 51 Q49_39 (z_upR (rfL L_X5_init_47 (z_upR (rfL L_X5_init_43 (z_upR (rfL L_X5_init_39 (z_upR (rfL L_X5_init_35 (z_upR (rfL L_X5_init_31 (z_upR (rfL L_X4_init_27 (z_upR (rfL (mrow 21) (z_upR MR 19 0 (some 20))) 19 1 (some 21))) 19 2 (some 27))) 20 0 (some 31))) 20 1 (some 35))) 20 2 (some 39))) 20 3 (some 43))) 20 4 (some 47)) MI ML 53 [(1, .int (iI 4)), (0, .ref (Q49_39 19))] []
  have S_41 : zst 51 (z_upR (rfL L_X5_init_47 (z_upR (rfL L_X5_init_43 (z_upR (rfL L_X5_init_39 (z_upR (rfL L_X5_init_35 (z_upR (rfL L_X5_init_31 (z_upR (rfL L_X4_init_27 (z_upR (rfL (mrow 21) (z_upR MR 19 0 (some 20))) 19 1 (some 21))) 19 2 (some 27))) 20 0 (some 31))) 20 1 (some 35))) 20 2 (some 39))) 20 3 (some 43))) 20 4 (some 47)) MI ML := S_40.ref (by decide) (by decide)
  refine v_iinc K 0 (fun q9 => [(1, .int (iI q9)), (0, .ref (Q49_39 19))]) dX1_init_53 rfl (by decide) (fun _ => rfl) (fun x42 hx42 => ?_)
  obtain rfl : x42 = 5 := hx42
  refine v_goto K 35 dX1_init_56 (by decide) ?_
  refine v_iload_n K 0 dX1_init_35 rfl rfl ?_
  refine v_iconst K dX1_init_36 ?_
  refine v_icmp_ge K 59 ⟨by decide, by decide⟩ ⟨by decide, by decide⟩ dX1_init_37 (by decide) (fun h9 => ?_) (fun h9 => ?_)
  case refine_2 => exact absurd h9 (by decide)
  show V X (31, 1270) 51 Q49_39 (z_upR (rfL L_X5_init_47 (z_upR (rfL L_X5_init_43 (z_upR (rfL L_X5_init_39 (z_upR (rfL L_X5_init_35 (z_upR (rfL L_X5_init_31 (z_upR (rfL L_X4_init_27 (z_upR (rfL (mrow 21) (z_upR MR 19 0 (some 20))) 19 1 (some 21))) 19 2 (some 27))) 20 0 (some 31))) 20 1 (some 35))) 20 2 (some 39))) 20 3 (some 43))) 20 4 (some 47)) MI ML 59 [(1, .int (iI 5)), (0, .ref (Q49_39 19))] []
  exact v_ret K E dX1_init_59 ⟨rfl, rfl, (((((((((((((((agr.rf _ _).tr a6_1 (by decide)).tr a15_4 (by decide)).tr a23_7 (by decide)).tr a27_9 (by decide)).tr a45_13 (by decide)).tr a49_15 (by decide)).tr a45_19 (by decide)).tr a49_21 (by decide)).tr a45_25 (by decide)).tr a49_27 (by decide)).tr a45_31 (by decide)).tr a49_33 (by decide)).tr a45_37 (by decide)).tr a49_39 (by decide)), rfl, rfl, rfl, S_41⟩
def L_X4_init_59 : List (Nat × Nat × Nat) := [(59, 0, 60), (59, 2, 61), (59, 4, 62)]
set_option maxRecDepth 100000 in
set_option maxHeartbeats 4000000 in
theorem c_X4_init_59 {l : Launch} {D : va_G} {Z : ZC} {Q : Nat → Nat} {MR : ZR} {MI ML : ZM} (S : zst 60 MR MI ML) : CMg l yX4_init cX4_init 1 none 1 12 3 1034 D Z 60 Q MR [.ref (Q 59)] MI ML (fun v n' Q' MR' MI' ML' => v = none ∧ n' = 63 ∧ agr 60 Q Q' ∧ MR' = rfL L_X4_init_59 MR ∧ MI' = MI ∧ ML' = ML ∧ zst 63 MR' MI' ML') := by
  refine CMg.of (by decide +kernel) rfl (Nat.le_of_ble_eq_true rfl) ?_
  intro X K E _ _ _ hN hI
  show V X (0, 0) 60 Q MR MI ML 0 [(0, .ref (Q 59))] []
  refine v_aload_n K 0 dX4_init_0 rfl rfl ?_
  refine v_objI K ob_X4_3 ob_m ob_c (by decide) (by decide) dX4_init_1 ?_
  refine v_aload_n K 0 dX4_init_4 rfl rfl ?_
  refine v_iconst K dX4_init_5 ?_
  refine v_newi K 5 rfl (by decide) ac_int S rfl rfl (Nat.le_of_ble_eq_true rfl) (Nat.le_of_ble_eq_true rfl) (fun Q8 => [(0, .ref (Q8 59))]) (fun Q8 => [.ref (Q8 59)]) (fun Q9 h9 => ⟨by simp only [h9 59 (by decide)], by simp only [h9 59 (by decide)]⟩) dX4_init_6 (fun Q6_1 a6_1 => ?_)
  show V X (1, 5) 61 Q6_1 MR MI ML 8 [(0, .ref (Q6_1 59))] [.ref (Q6_1 60), .ref (Q6_1 59)]
  have S_2 : zst 61 MR MI ML := S.le (by decide)
  refine v_putF K hI fp_X4_9 (fun _ => ⟨rfl, rfl⟩) (by decide) rfl rfl dX4_init_8 ?_
  show V X (1, 5) 61 Q6_1 (z_upR MR 59 0 (some 60)) MI ML 11 [(0, .ref (Q6_1 59))] []
  have S_3 : zst 61 (z_upR MR 59 0 (some 60)) MI ML := S_2.ref (by decide) (by decide)
  refine v_aload_n K 0 dX4_init_11 rfl rfl ?_
  refine v_iconst K dX4_init_12 ?_
  refine v_newi K 5 rfl (by decide) ac_int S_3 rfl rfl (Nat.le_of_ble_eq_true rfl) (Nat.le_of_ble_eq_true rfl) (fun Q8 => [(0, .ref (Q8 59))]) (fun Q8 => [.ref (Q8 59)]) (fun Q9 h9 => ⟨by simp only [h9 59 (by decide)], by simp only [h9 59 (by decide)]⟩) dX4_init_13 (fun Q13_4 a13_4 => ?_)
  show V X (2, 10) 62 Q13_4 (z_upR MR 59 0 (some 60)) MI ML 15 [(0, .ref (Q13_4 59))] [.ref (Q13_4 61), .ref (Q13_4 59)]
  have S_5 : zst 62 (z_upR MR 59 0 (some 60)) MI ML := S_3.le (by decide)
  refine v_putF K hI fp_X4_15 (fun _ => ⟨rfl, rfl⟩) (by decide) rfl rfl dX4_init_15 ?_
  show V X (2, 10) 62 Q13_4 (z_upR (z_upR MR 59 0 (some 60)) 59 2 (some 61)) MI ML 18 [(0, .ref (Q13_4 59))] []
  have S_6 : zst 62 (z_upR (z_upR MR 59 0 (some 60)) 59 2 (some 61)) MI ML := S_5.ref (by decide) (by decide)
  refine v_aload_n K 0 dX4_init_18 rfl rfl ?_
  refine v_sipush K dX4_init_19 (by decide) ?_
  refine v_newi K 1024 rfl (by decide) ac_int S_6 rfl rfl (Nat.le_of_ble_eq_true rfl) (Nat.le_of_ble_eq_true rfl) (fun Q8 => [(0, .ref (Q8 59))]) (fun Q8 => [.ref (Q8 59)]) (fun Q9 h9 => ⟨by simp only [h9 59 (by decide)], by simp only [h9 59 (by decide)]⟩) dX4_init_22 (fun Q22_7 a22_7 => ?_)
  show V X (3, 1034) 63 Q22_7 (z_upR (z_upR MR 59 0 (some 60)) 59 2 (some 61)) MI ML 24 [(0, .ref (Q22_7 59))] [.ref (Q22_7 62), .ref (Q22_7 59)]
  have S_8 : zst 63 (z_upR (z_upR MR 59 0 (some 60)) 59 2 (some 61)) MI ML := S_6.le (by decide)
  refine v_putF K hI fp_X4_18 (fun _ => ⟨rfl, rfl⟩) (by decide) rfl rfl dX4_init_24 ?_
  show V X (3, 1034) 63 Q22_7 (z_upR (z_upR (z_upR MR 59 0 (some 60)) 59 2 (some 61)) 59 4 (some 62)) MI ML 27 [(0, .ref (Q22_7 59))] []
  have S_9 : zst 63 (z_upR (z_upR (z_upR MR 59 0 (some 60)) 59 2 (some 61)) 59 4 (some 62)) MI ML := S_8.ref (by decide) (by decide)
  exact v_ret K E dX4_init_27 ⟨rfl, rfl, ((((agr.rf _ _).tr a6_1 (by decide)).tr a13_4 (by decide)).tr a22_7 (by decide)), rfl, rfl, rfl, S_9⟩
def L_X5_init_63 : List (Nat × Nat × Nat) := [(63, 0, 64), (63, 1, 65), (63, 2, 66)]
set_option maxRecDepth 100000 in
set_option maxHeartbeats 4000000 in
theorem c_X5_init_63 {l : Launch} {D : va_G} {Z : ZC} {Q : Nat → Nat} {MR : ZR} {MI ML : ZM} (S : zst 64 MR MI ML) : CMg l yX5_init cX5_init 1 none 1 12 3 33 D Z 64 Q MR [.ref (Q 63)] MI ML (fun v n' Q' MR' MI' ML' => v = none ∧ n' = 67 ∧ agr 64 Q Q' ∧ MR' = rfL L_X5_init_63 MR ∧ MI' = MI ∧ ML' = ML ∧ zst 67 MR' MI' ML') := by
  refine CMg.of (by decide +kernel) rfl (Nat.le_of_ble_eq_true rfl) ?_
  intro X K E _ _ _ hN hI
  show V X (0, 0) 64 Q MR MI ML 0 [(0, .ref (Q 63))] []
  refine v_aload_n K 0 dX5_init_0 rfl rfl ?_
  refine v_objI K ob_X5_3 ob_m ob_c (by decide) (by decide) dX5_init_1 ?_
  refine v_aload_n K 0 dX5_init_4 rfl rfl ?_
  refine v_bipush K dX5_init_5 (by decide) ?_
  refine v_newi K 10 rfl (by decide) ac_int S rfl rfl (Nat.le_of_ble_eq_true rfl) (Nat.le_of_ble_eq_true rfl) (fun Q8 => [(0, .ref (Q8 63))]) (fun Q8 => [.ref (Q8 63)]) (fun Q9 h9 => ⟨by simp only [h9 63 (by decide)], by simp only [h9 63 (by decide)]⟩) dX5_init_7 (fun Q7_1 a7_1 => ?_)
  show V X (1, 10) 65 Q7_1 MR MI ML 9 [(0, .ref (Q7_1 63))] [.ref (Q7_1 64), .ref (Q7_1 63)]
  have S_2 : zst 65 MR MI ML := S.le (by decide)
  refine v_putF K hI fp_X5_9 (fun _ => ⟨rfl, rfl⟩) (by decide) rfl rfl dX5_init_9 ?_
  show V X (1, 10) 65 Q7_1 (z_upR MR 63 0 (some 64)) MI ML 12 [(0, .ref (Q7_1 63))] []
  have S_3 : zst 65 (z_upR MR 63 0 (some 64)) MI ML := S_2.ref (by decide) (by decide)
  refine v_aload_n K 0 dX5_init_12 rfl rfl ?_
  refine v_bipush K dX5_init_13 (by decide) ?_
  refine v_newi K 13 rfl (by decide) ac_int S_3 rfl rfl (Nat.le_of_ble_eq_true rfl) (Nat.le_of_ble_eq_true rfl) (fun Q8 => [(0, .ref (Q8 63))]) (fun Q8 => [.ref (Q8 63)]) (fun Q9 h9 => ⟨by simp only [h9 63 (by decide)], by simp only [h9 63 (by decide)]⟩) dX5_init_15 (fun Q15_4 a15_4 => ?_)
  show V X (2, 23) 66 Q15_4 (z_upR MR 63 0 (some 64)) MI ML 17 [(0, .ref (Q15_4 63))] [.ref (Q15_4 65), .ref (Q15_4 63)]
  have S_5 : zst 66 (z_upR MR 63 0 (some 64)) MI ML := S_3.le (by decide)
  refine v_putF K hI fp_X5_15 (fun _ => ⟨rfl, rfl⟩) (by decide) rfl rfl dX5_init_17 ?_
  show V X (2, 23) 66 Q15_4 (z_upR (z_upR MR 63 0 (some 64)) 63 1 (some 65)) MI ML 20 [(0, .ref (Q15_4 63))] []
  have S_6 : zst 66 (z_upR (z_upR MR 63 0 (some 64)) 63 1 (some 65)) MI ML := S_5.ref (by decide) (by decide)
  refine v_aload_n K 0 dX5_init_20 rfl rfl ?_
  refine v_bipush K dX5_init_21 (by decide) ?_
  refine v_newi K 10 rfl (by decide) ac_int S_6 rfl rfl (Nat.le_of_ble_eq_true rfl) (Nat.le_of_ble_eq_true rfl) (fun Q8 => [(0, .ref (Q8 63))]) (fun Q8 => [.ref (Q8 63)]) (fun Q9 h9 => ⟨by simp only [h9 63 (by decide)], by simp only [h9 63 (by decide)]⟩) dX5_init_23 (fun Q23_7 a23_7 => ?_)
  show V X (3, 33) 67 Q23_7 (z_upR (z_upR MR 63 0 (some 64)) 63 1 (some 65)) MI ML 25 [(0, .ref (Q23_7 63))] [.ref (Q23_7 66), .ref (Q23_7 63)]
  have S_8 : zst 67 (z_upR (z_upR MR 63 0 (some 64)) 63 1 (some 65)) MI ML := S_6.le (by decide)
  refine v_putF K hI fp_X5_18 (fun _ => ⟨rfl, rfl⟩) (by decide) rfl rfl dX5_init_25 ?_
  show V X (3, 33) 67 Q23_7 (z_upR (z_upR (z_upR MR 63 0 (some 64)) 63 1 (some 65)) 63 2 (some 66)) MI ML 28 [(0, .ref (Q23_7 63))] []
  have S_9 : zst 67 (z_upR (z_upR (z_upR MR 63 0 (some 64)) 63 1 (some 65)) 63 2 (some 66)) MI ML := S_8.ref (by decide) (by decide)
  exact v_ret K E dX5_init_28 ⟨rfl, rfl, ((((agr.rf _ _).tr a7_1 (by decide)).tr a15_4 (by decide)).tr a23_7 (by decide)), rfl, rfl, rfl, S_9⟩
def L_X5_init_67 : List (Nat × Nat × Nat) := [(67, 0, 68), (67, 1, 69), (67, 2, 70)]
set_option maxRecDepth 100000 in
set_option maxHeartbeats 4000000 in
theorem c_X5_init_67 {l : Launch} {D : va_G} {Z : ZC} {Q : Nat → Nat} {MR : ZR} {MI ML : ZM} (S : zst 68 MR MI ML) : CMg l yX5_init cX5_init 1 none 1 12 3 33 D Z 68 Q MR [.ref (Q 67)] MI ML (fun v n' Q' MR' MI' ML' => v = none ∧ n' = 71 ∧ agr 68 Q Q' ∧ MR' = rfL L_X5_init_67 MR ∧ MI' = MI ∧ ML' = ML ∧ zst 71 MR' MI' ML') := by
  refine CMg.of (by decide +kernel) rfl (Nat.le_of_ble_eq_true rfl) ?_
  intro X K E _ _ _ hN hI
  show V X (0, 0) 68 Q MR MI ML 0 [(0, .ref (Q 67))] []
  refine v_aload_n K 0 dX5_init_0 rfl rfl ?_
  refine v_objI K ob_X5_3 ob_m ob_c (by decide) (by decide) dX5_init_1 ?_
  refine v_aload_n K 0 dX5_init_4 rfl rfl ?_
  refine v_bipush K dX5_init_5 (by decide) ?_
  refine v_newi K 10 rfl (by decide) ac_int S rfl rfl (Nat.le_of_ble_eq_true rfl) (Nat.le_of_ble_eq_true rfl) (fun Q8 => [(0, .ref (Q8 67))]) (fun Q8 => [.ref (Q8 67)]) (fun Q9 h9 => ⟨by simp only [h9 67 (by decide)], by simp only [h9 67 (by decide)]⟩) dX5_init_7 (fun Q7_1 a7_1 => ?_)
  show V X (1, 10) 69 Q7_1 MR MI ML 9 [(0, .ref (Q7_1 67))] [.ref (Q7_1 68), .ref (Q7_1 67)]
  have S_2 : zst 69 MR MI ML := S.le (by decide)
  refine v_putF K hI fp_X5_9 (fun _ => ⟨rfl, rfl⟩) (by decide) rfl rfl dX5_init_9 ?_
  show V X (1, 10) 69 Q7_1 (z_upR MR 67 0 (some 68)) MI ML 12 [(0, .ref (Q7_1 67))] []
  have S_3 : zst 69 (z_upR MR 67 0 (some 68)) MI ML := S_2.ref (by decide) (by decide)
  refine v_aload_n K 0 dX5_init_12 rfl rfl ?_
  refine v_bipush K dX5_init_13 (by decide) ?_
  refine v_newi K 13 rfl (by decide) ac_int S_3 rfl rfl (Nat.le_of_ble_eq_true rfl) (Nat.le_of_ble_eq_true rfl) (fun Q8 => [(0, .ref (Q8 67))]) (fun Q8 => [.ref (Q8 67)]) (fun Q9 h9 => ⟨by simp only [h9 67 (by decide)], by simp only [h9 67 (by decide)]⟩) dX5_init_15 (fun Q15_4 a15_4 => ?_)
  show V X (2, 23) 70 Q15_4 (z_upR MR 67 0 (some 68)) MI ML 17 [(0, .ref (Q15_4 67))] [.ref (Q15_4 69), .ref (Q15_4 67)]
  have S_5 : zst 70 (z_upR MR 67 0 (some 68)) MI ML := S_3.le (by decide)
  refine v_putF K hI fp_X5_15 (fun _ => ⟨rfl, rfl⟩) (by decide) rfl rfl dX5_init_17 ?_
  show V X (2, 23) 70 Q15_4 (z_upR (z_upR MR 67 0 (some 68)) 67 1 (some 69)) MI ML 20 [(0, .ref (Q15_4 67))] []
  have S_6 : zst 70 (z_upR (z_upR MR 67 0 (some 68)) 67 1 (some 69)) MI ML := S_5.ref (by decide) (by decide)
  refine v_aload_n K 0 dX5_init_20 rfl rfl ?_
  refine v_bipush K dX5_init_21 (by decide) ?_
  refine v_newi K 10 rfl (by decide) ac_int S_6 rfl rfl (Nat.le_of_ble_eq_true rfl) (Nat.le_of_ble_eq_true rfl) (fun Q8 => [(0, .ref (Q8 67))]) (fun Q8 => [.ref (Q8 67)]) (fun Q9 h9 => ⟨by simp only [h9 67 (by decide)], by simp only [h9 67 (by decide)]⟩) dX5_init_23 (fun Q23_7 a23_7 => ?_)
  show V X (3, 33) 71 Q23_7 (z_upR (z_upR MR 67 0 (some 68)) 67 1 (some 69)) MI ML 25 [(0, .ref (Q23_7 67))] [.ref (Q23_7 70), .ref (Q23_7 67)]
  have S_8 : zst 71 (z_upR (z_upR MR 67 0 (some 68)) 67 1 (some 69)) MI ML := S_6.le (by decide)
  refine v_putF K hI fp_X5_18 (fun _ => ⟨rfl, rfl⟩) (by decide) rfl rfl dX5_init_25 ?_
  show V X (3, 33) 71 Q23_7 (z_upR (z_upR (z_upR MR 67 0 (some 68)) 67 1 (some 69)) 67 2 (some 70)) MI ML 28 [(0, .ref (Q23_7 67))] []
  have S_9 : zst 71 (z_upR (z_upR (z_upR MR 67 0 (some 68)) 67 1 (some 69)) 67 2 (some 70)) MI ML := S_8.ref (by decide) (by decide)
  exact v_ret K E dX5_init_28 ⟨rfl, rfl, ((((agr.rf _ _).tr a7_1 (by decide)).tr a15_4 (by decide)).tr a23_7 (by decide)), rfl, rfl, rfl, S_9⟩
def L_X5_init_71 : List (Nat × Nat × Nat) := [(71, 0, 72), (71, 1, 73), (71, 2, 74)]
set_option maxRecDepth 100000 in
set_option maxHeartbeats 4000000 in
theorem c_X5_init_71 {l : Launch} {D : va_G} {Z : ZC} {Q : Nat → Nat} {MR : ZR} {MI ML : ZM} (S : zst 72 MR MI ML) : CMg l yX5_init cX5_init 1 none 1 12 3 33 D Z 72 Q MR [.ref (Q 71)] MI ML (fun v n' Q' MR' MI' ML' => v = none ∧ n' = 75 ∧ agr 72 Q Q' ∧ MR' = rfL L_X5_init_71 MR ∧ MI' = MI ∧ ML' = ML ∧ zst 75 MR' MI' ML') := by
  refine CMg.of (by decide +kernel) rfl (Nat.le_of_ble_eq_true rfl) ?_
  intro X K E _ _ _ hN hI
  show V X (0, 0) 72 Q MR MI ML 0 [(0, .ref (Q 71))] []
  refine v_aload_n K 0 dX5_init_0 rfl rfl ?_
  refine v_objI K ob_X5_3 ob_m ob_c (by decide) (by decide) dX5_init_1 ?_
  refine v_aload_n K 0 dX5_init_4 rfl rfl ?_
  refine v_bipush K dX5_init_5 (by decide) ?_
  refine v_newi K 10 rfl (by decide) ac_int S rfl rfl (Nat.le_of_ble_eq_true rfl) (Nat.le_of_ble_eq_true rfl) (fun Q8 => [(0, .ref (Q8 71))]) (fun Q8 => [.ref (Q8 71)]) (fun Q9 h9 => ⟨by simp only [h9 71 (by decide)], by simp only [h9 71 (by decide)]⟩) dX5_init_7 (fun Q7_1 a7_1 => ?_)
  show V X (1, 10) 73 Q7_1 MR MI ML 9 [(0, .ref (Q7_1 71))] [.ref (Q7_1 72), .ref (Q7_1 71)]
  have S_2 : zst 73 MR MI ML := S.le (by decide)
  refine v_putF K hI fp_X5_9 (fun _ => ⟨rfl, rfl⟩) (by decide) rfl rfl dX5_init_9 ?_
  show V X (1, 10) 73 Q7_1 (z_upR MR 71 0 (some 72)) MI ML 12 [(0, .ref (Q7_1 71))] []
  have S_3 : zst 73 (z_upR MR 71 0 (some 72)) MI ML := S_2.ref (by decide) (by decide)
  refine v_aload_n K 0 dX5_init_12 rfl rfl ?_
  refine v_bipush K dX5_init_13 (by decide) ?_
  refine v_newi K 13 rfl (by decide) ac_int S_3 rfl rfl (Nat.le_of_ble_eq_true rfl) (Nat.le_of_ble_eq_true rfl) (fun Q8 => [(0, .ref (Q8 71))]) (fun Q8 => [.ref (Q8 71)]) (fun Q9 h9 => ⟨by simp only [h9 71 (by decide)], by simp only [h9 71 (by decide)]⟩) dX5_init_15 (fun Q15_4 a15_4 => ?_)
  show V X (2, 23) 74 Q15_4 (z_upR MR 71 0 (some 72)) MI ML 17 [(0, .ref (Q15_4 71))] [.ref (Q15_4 73), .ref (Q15_4 71)]
  have S_5 : zst 74 (z_upR MR 71 0 (some 72)) MI ML := S_3.le (by decide)
  refine v_putF K hI fp_X5_15 (fun _ => ⟨rfl, rfl⟩) (by decide) rfl rfl dX5_init_17 ?_
  show V X (2, 23) 74 Q15_4 (z_upR (z_upR MR 71 0 (some 72)) 71 1 (some 73)) MI ML 20 [(0, .ref (Q15_4 71))] []
  have S_6 : zst 74 (z_upR (z_upR MR 71 0 (some 72)) 71 1 (some 73)) MI ML := S_5.ref (by decide) (by decide)
  refine v_aload_n K 0 dX5_init_20 rfl rfl ?_
  refine v_bipush K dX5_init_21 (by decide) ?_
  refine v_newi K 10 rfl (by decide) ac_int S_6 rfl rfl (Nat.le_of_ble_eq_true rfl) (Nat.le_of_ble_eq_true rfl) (fun Q8 => [(0, .ref (Q8 71))]) (fun Q8 => [.ref (Q8 71)]) (fun Q9 h9 => ⟨by simp only [h9 71 (by decide)], by simp only [h9 71 (by decide)]⟩) dX5_init_23 (fun Q23_7 a23_7 => ?_)
  show V X (3, 33) 75 Q23_7 (z_upR (z_upR MR 71 0 (some 72)) 71 1 (some 73)) MI ML 25 [(0, .ref (Q23_7 71))] [.ref (Q23_7 74), .ref (Q23_7 71)]
  have S_8 : zst 75 (z_upR (z_upR MR 71 0 (some 72)) 71 1 (some 73)) MI ML := S_6.le (by decide)
  refine v_putF K hI fp_X5_18 (fun _ => ⟨rfl, rfl⟩) (by decide) rfl rfl dX5_init_25 ?_
  show V X (3, 33) 75 Q23_7 (z_upR (z_upR (z_upR MR 71 0 (some 72)) 71 1 (some 73)) 71 2 (some 74)) MI ML 28 [(0, .ref (Q23_7 71))] []
  have S_9 : zst 75 (z_upR (z_upR (z_upR MR 71 0 (some 72)) 71 1 (some 73)) 71 2 (some 74)) MI ML := S_8.ref (by decide) (by decide)
  exact v_ret K E dX5_init_28 ⟨rfl, rfl, ((((agr.rf _ _).tr a7_1 (by decide)).tr a15_4 (by decide)).tr a23_7 (by decide)), rfl, rfl, rfl, S_9⟩
def L_X5_init_75 : List (Nat × Nat × Nat) := [(75, 0, 76), (75, 1, 77), (75, 2, 78)]
set_option maxRecDepth 100000 in
set_option maxHeartbeats 4000000 in
theorem c_X5_init_75 {l : Launch} {D : va_G} {Z : ZC} {Q : Nat → Nat} {MR : ZR} {MI ML : ZM} (S : zst 76 MR MI ML) : CMg l yX5_init cX5_init 1 none 1 12 3 33 D Z 76 Q MR [.ref (Q 75)] MI ML (fun v n' Q' MR' MI' ML' => v = none ∧ n' = 79 ∧ agr 76 Q Q' ∧ MR' = rfL L_X5_init_75 MR ∧ MI' = MI ∧ ML' = ML ∧ zst 79 MR' MI' ML') := by
  refine CMg.of (by decide +kernel) rfl (Nat.le_of_ble_eq_true rfl) ?_
  intro X K E _ _ _ hN hI
  show V X (0, 0) 76 Q MR MI ML 0 [(0, .ref (Q 75))] []
  refine v_aload_n K 0 dX5_init_0 rfl rfl ?_
  refine v_objI K ob_X5_3 ob_m ob_c (by decide) (by decide) dX5_init_1 ?_
  refine v_aload_n K 0 dX5_init_4 rfl rfl ?_
  refine v_bipush K dX5_init_5 (by decide) ?_
  refine v_newi K 10 rfl (by decide) ac_int S rfl rfl (Nat.le_of_ble_eq_true rfl) (Nat.le_of_ble_eq_true rfl) (fun Q8 => [(0, .ref (Q8 75))]) (fun Q8 => [.ref (Q8 75)]) (fun Q9 h9 => ⟨by simp only [h9 75 (by decide)], by simp only [h9 75 (by decide)]⟩) dX5_init_7 (fun Q7_1 a7_1 => ?_)
  show V X (1, 10) 77 Q7_1 MR MI ML 9 [(0, .ref (Q7_1 75))] [.ref (Q7_1 76), .ref (Q7_1 75)]
  have S_2 : zst 77 MR MI ML := S.le (by decide)
  refine v_putF K hI fp_X5_9 (fun _ => ⟨rfl, rfl⟩) (by decide) rfl rfl dX5_init_9 ?_
  show V X (1, 10) 77 Q7_1 (z_upR MR 75 0 (some 76)) MI ML 12 [(0, .ref (Q7_1 75))] []
  have S_3 : zst 77 (z_upR MR 75 0 (some 76)) MI ML := S_2.ref (by decide) (by decide)
  refine v_aload_n K 0 dX5_init_12 rfl rfl ?_
  refine v_bipush K dX5_init_13 (by decide) ?_
  refine v_newi K 13 rfl (by decide) ac_int S_3 rfl rfl (Nat.le_of_ble_eq_true rfl) (Nat.le_of_ble_eq_true rfl) (fun Q8 => [(0, .ref (Q8 75))]) (fun Q8 => [.ref (Q8 75)]) (fun Q9 h9 => ⟨by simp only [h9 75 (by decide)], by simp only [h9 75 (by decide)]⟩) dX5_init_15 (fun Q15_4 a15_4 => ?_)
  show V X (2, 23) 78 Q15_4 (z_upR MR 75 0 (some 76)) MI ML 17 [(0, .ref (Q15_4 75))] [.ref (Q15_4 77), .ref (Q15_4 75)]
  have S_5 : zst 78 (z_upR MR 75 0 (some 76)) MI ML := S_3.le (by decide)
  refine v_putF K hI fp_X5_15 (fun _ => ⟨rfl, rfl⟩) (by decide) rfl rfl dX5_init_17 ?_
  show V X (2, 23) 78 Q15_4 (z_upR (z_upR MR 75 0 (some 76)) 75 1 (some 77)) MI ML 20 [(0, .ref (Q15_4 75))] []
  have S_6 : zst 78 (z_upR (z_upR MR 75 0 (some 76)) 75 1 (some 77)) MI ML := S_5.ref (by decide) (by decide)
  refine v_aload_n K 0 dX5_init_20 rfl rfl ?_
  refine v_bipush K dX5_init_21 (by decide) ?_
  refine v_newi K 10 rfl (by decide) ac_int S_6 rfl rfl (Nat.le_of_ble_eq_true rfl) (Nat.le_of_ble_eq_true rfl) (fun Q8 => [(0, .ref (Q8 75))]) (fun Q8 => [.ref (Q8 75)]) (fun Q9 h9 => ⟨by simp only [h9 75 (by decide)], by simp only [h9 75 (by decide)]⟩) dX5_init_23 (fun Q23_7 a23_7 => ?_)
  show V X (3, 33) 79 Q23_7 (z_upR (z_upR MR 75 0 (some 76)) 75 1 (some 77)) MI ML 25 [(0, .ref (Q23_7 75))] [.ref (Q23_7 78), .ref (Q23_7 75)]
  have S_8 : zst 79 (z_upR (z_upR MR 75 0 (some 76)) 75 1 (some 77)) MI ML := S_6.le (by decide)
  refine v_putF K hI fp_X5_18 (fun _ => ⟨rfl, rfl⟩) (by decide) rfl rfl dX5_init_25 ?_
  show V X (3, 33) 79 Q23_7 (z_upR (z_upR (z_upR MR 75 0 (some 76)) 75 1 (some 77)) 75 2 (some 78)) MI ML 28 [(0, .ref (Q23_7 75))] []
  have S_9 : zst 79 (z_upR (z_upR (z_upR MR 75 0 (some 76)) 75 1 (some 77)) 75 2 (some 78)) MI ML := S_8.ref (by decide) (by decide)
  exact v_ret K E dX5_init_28 ⟨rfl, rfl, ((((agr.rf _ _).tr a7_1 (by decide)).tr a15_4 (by decide)).tr a23_7 (by decide)), rfl, rfl, rfl, S_9⟩
def L_X5_init_79 : List (Nat × Nat × Nat) := [(79, 0, 80), (79, 1, 81), (79, 2, 82)]
set_option maxRecDepth 100000 in
set_option maxHeartbeats 4000000 in
theorem c_X5_init_79 {l : Launch} {D : va_G} {Z : ZC} {Q : Nat → Nat} {MR : ZR} {MI ML : ZM} (S : zst 80 MR MI ML) : CMg l yX5_init cX5_init 1 none 1 12 3 33 D Z 80 Q MR [.ref (Q 79)] MI ML (fun v n' Q' MR' MI' ML' => v = none ∧ n' = 83 ∧ agr 80 Q Q' ∧ MR' = rfL L_X5_init_79 MR ∧ MI' = MI ∧ ML' = ML ∧ zst 83 MR' MI' ML') := by
  refine CMg.of (by decide +kernel) rfl (Nat.le_of_ble_eq_true rfl) ?_
  intro X K E _ _ _ hN hI
  show V X (0, 0) 80 Q MR MI ML 0 [(0, .ref (Q 79))] []
  refine v_aload_n K 0 dX5_init_0 rfl rfl ?_
  refine v_objI K ob_X5_3 ob_m ob_c (by decide) (by decide) dX5_init_1 ?_
  refine v_aload_n K 0 dX5_init_4 rfl rfl ?_
  refine v_bipush K dX5_init_5 (by decide) ?_
  refine v_newi K 10 rfl (by decide) ac_int S rfl rfl (Nat.le_of_ble_eq_true rfl) (Nat.le_of_ble_eq_true rfl) (fun Q8 => [(0, .ref (Q8 79))]) (fun Q8 => [.ref (Q8 79)]) (fun Q9 h9 => ⟨by simp only [h9 79 (by decide)], by simp only [h9 79 (by decide)]⟩) dX5_init_7 (fun Q7_1 a7_1 => ?_)
  show V X (1, 10) 81 Q7_1 MR MI ML 9 [(0, .ref (Q7_1 79))] [.ref (Q7_1 80), .ref (Q7_1 79)]
  have S_2 : zst 81 MR MI ML := S.le (by decide)
  refine v_putF K hI fp_X5_9 (fun _ => ⟨rfl, rfl⟩) (by decide) rfl rfl dX5_init_9 ?_
  show V X (1, 10) 81 Q7_1 (z_upR MR 79 0 (some 80)) MI ML 12 [(0, .ref (Q7_1 79))] []
  have S_3 : zst 81 (z_upR MR 79 0 (some 80)) MI ML := S_2.ref (by decide) (by decide)
  refine v_aload_n K 0 dX5_init_12 rfl rfl ?_
  refine v_bipush K dX5_init_13 (by decide) ?_
  refine v_newi K 13 rfl (by decide) ac_int S_3 rfl rfl (Nat.le_of_ble_eq_true rfl) (Nat.le_of_ble_eq_true rfl) (fun Q8 => [(0, .ref (Q8 79))]) (fun Q8 => [.ref (Q8 79)]) (fun Q9 h9 => ⟨by simp only [h9 79 (by decide)], by simp only [h9 79 (by decide)]⟩) dX5_init_15 (fun Q15_4 a15_4 => ?_)
  show V X (2, 23) 82 Q15_4 (z_upR MR 79 0 (some 80)) MI ML 17 [(0, .ref (Q15_4 79))] [.ref (Q15_4 81), .ref (Q15_4 79)]
  have S_5 : zst 82 (z_upR MR 79 0 (some 80)) MI ML := S_3.le (by decide)
  refine v_putF K hI fp_X5_15 (fun _ => ⟨rfl, rfl⟩) (by decide) rfl rfl dX5_init_17 ?_
  show V X (2, 23) 82 Q15_4 (z_upR (z_upR MR 79 0 (some 80)) 79 1 (some 81)) MI ML 20 [(0, .ref (Q15_4 79))] []
  have S_6 : zst 82 (z_upR (z_upR MR 79 0 (some 80)) 79 1 (some 81)) MI ML := S_5.ref (by decide) (by decide)
  refine v_aload_n K 0 dX5_init_20 rfl rfl ?_
  refine v_bipush K dX5_init_21 (by decide) ?_
  refine v_newi K 10 rfl (by decide) ac_int S_6 rfl rfl (Nat.le_of_ble_eq_true rfl) (Nat.le_of_ble_eq_true rfl) (fun Q8 => [(0, .ref (Q8 79))]) (fun Q8 => [.ref (Q8 79)]) (fun Q9 h9 => ⟨by simp only [h9 79 (by decide)], by simp only [h9 79 (by decide)]⟩) dX5_init_23 (fun Q23_7 a23_7 => ?_)
  show V X (3, 33) 83 Q23_7 (z_upR (z_upR MR 79 0 (some 80)) 79 1 (some 81)) MI ML 25 [(0, .ref (Q23_7 79))] [.ref (Q23_7 82), .ref (Q23_7 79)]
  have S_8 : zst 83 (z_upR (z_upR MR 79 0 (some 80)) 79 1 (some 81)) MI ML := S_6.le (by decide)
  refine v_putF K hI fp_X5_18 (fun _ => ⟨rfl, rfl⟩) (by decide) rfl rfl dX5_init_25 ?_
  show V X (3, 33) 83 Q23_7 (z_upR (z_upR (z_upR MR 79 0 (some 80)) 79 1 (some 81)) 79 2 (some 82)) MI ML 28 [(0, .ref (Q23_7 79))] []
  have S_9 : zst 83 (z_upR (z_upR (z_upR MR 79 0 (some 80)) 79 1 (some 81)) 79 2 (some 82)) MI ML := S_8.ref (by decide) (by decide)
  exact v_ret K E dX5_init_28 ⟨rfl, rfl, ((((agr.rf _ _).tr a7_1 (by decide)).tr a15_4 (by decide)).tr a23_7 (by decide)), rfl, rfl, rfl, S_9⟩
def L_X1_init_51 : List (Nat × Nat × Nat) := [(51, 0, 52), (53, 0, 54), (53, 1, 55), (53, 2, 56), (53, 3, 57), (53, 4, 58), (51, 1, 53), (59, 0, 60), (59, 2, 61), (59, 4, 62), (51, 2, 59), (63, 0, 64), (63, 1, 65), (63, 2, 66), (52, 0, 63), (67, 0, 68), (67, 1, 69), (67, 2, 70), (52, 1, 67), (71, 0, 72), (71, 1, 73), (71, 2, 74), (52, 2, 71), (75, 0, 76), (75, 1, 77), (75, 2, 78), (52, 3, 75), (79, 0, 80), (79, 1, 81), (79, 2, 82), (52, 4, 79)]
set_option maxRecDepth 100000 in
set_option maxHeartbeats 4000000 in
theorem c_X1_init_51 {l : Launch} {D : va_G} {Z : ZC} {Q : Nat → Nat} {MR : ZR} {MI ML : ZM} (S : zst 52 MR MI ML) : CMg l yX1_init cX1_init 2 none 2 32 31 1270 D Z 52 Q MR [.ref (Q 51)] MI ML (fun v n' Q' MR' MI' ML' => v = none ∧ n' = 83 ∧ agr 52 Q Q' ∧ MR' = rfL L_X1_init_51 MR ∧ MI' = MI ∧ ML' = ML ∧ zst 83 MR' MI' ML') := by
  refine CMg.of (by decide +kernel) rfl (Nat.le_of_ble_eq_true rfl) ?_
  intro X K E _ _ _ hN hI
  show V X (0, 0) 52 Q MR MI ML 0 [(0, .ref (Q 51))] []
  refine v_aload_n K 0 dX1_init_0 rfl rfl ?_
  refine v_objI K ob_X1_3 ob_m ob_c (by decide) (by decide) dX1_init_1 ?_
  refine v_aload_n K 0 dX1_init_4 rfl rfl ?_
  refine v_iconst K dX1_init_5 ?_
  refine v_newqP K 5 rfl (by decide) cl_X1_9 S rfl rfl (Nat.le_of_ble_eq_true rfl) (Nat.le_of_ble_eq_true rfl) (fun Q8 => [(0, .ref (Q8 51))]) (fun Q8 => [.ref (Q8 51)]) (fun Q9 h9 => ⟨by simp only [h9 51 (by decide)], by simp only [h9 51 (by decide)]⟩) dX1_init_6 (fun Q6_1 a6_1 => ?_)
  show V X (1, 5) 53 Q6_1 MR MI ML 9 [(0, .ref (Q6_1 51))] [.ref (Q6_1 52), .ref (Q6_1 51)]
  have S_2 : zst 53 MR MI ML := S.le (by decide)
  refine v_putF K hI fp_X1_11 (fun _ => ⟨rfl, rfl⟩) (by decide) rfl rfl dX1_init_9 ?_
  show V X (1, 5) 53 Q6_1 (z_upR MR 51 0 (some 52)) MI ML 12 [(0, .ref (Q6_1 51))] []
  have S_3 : zst 53 (z_upR MR 51 0 (some 52)) MI ML := S_2.ref (by decide) (by decide)
  refine v_aload_n K 0 dX1_init_12 rfl rfl ?_
  refine v_iconst K dX1_init_13 ?_
  refine v_iconst K dX1_init_14 ?_
  refine v_multi K cl_X1_17 ac_int S_3 (by decide +kernel) (by decide +kernel) (Nat.le_of_ble_eq_true rfl) (Nat.le_of_ble_eq_true rfl) (fun Q8 => [(0, .ref (Q8 51))]) (fun Q8 => [.ref (Q8 51)]) (fun Q9 h9 => ⟨by simp only [h9 51 (by decide)], by simp only [h9 51 (by decide)]⟩) dX1_init_15 (fun Q15_4 a15_4 => ?_)
  show V X (7, 35) 59 Q15_4 (rfL (mrow 53) (z_upR MR 51 0 (some 52))) MI ML 19 [(0, .ref (Q15_4 51))] [.ref (Q15_4 53), .ref (Q15_4 51)]
  have S_5 : zst 59 (rfL (mrow 53) (z_upR MR 51 0 (some 52))) MI ML := zst_multi S_3
  refine v_putF K hI fp_X1_19 (fun _ => ⟨rfl, rfl⟩) (by decide) rfl rfl dX1_init_19 ?_
  show V X (7, 35) 59 Q15_4 (z_upR (rfL (mrow 53) (z_upR MR 51 0 (some 52))) 51 1 (some 53)) MI ML 22 [(0, .ref (Q15_4 51))] []
  have S_6 : zst 59 (z_upR (rfL (mrow 53) (z_upR MR 51 0 (some 52))) 51 1 (some 53)) MI ML := S_5.ref (by decide) (by decide)
  refine v_aload_n K 0 dX1_init_22 rfl rfl ?_
  refine v_new K fn_X1_22 S_6 rfl rfl (Nat.le_of_ble_eq_true rfl) (Nat.le_of_ble_eq_true rfl) (fun Q8 => [(0, .ref (Q8 51))]) (fun Q8 => [.ref (Q8 51)]) (fun Q9 h9 => ⟨by simp only [h9 51 (by decide)], by simp only [h9 51 (by decide)]⟩) dX1_init_23 (fun Q23_7 a23_7 => ?_)
  show V X (8, 41) 60 Q23_7 (z_upR (rfL (mrow 53) (z_upR MR 51 0 (some 52))) 51 1 (some 53)) MI ML 26 [(0, .ref (Q23_7 51))] [.ref (Q23_7 59), .ref (Q23_7 51)]
  have S_8 : zst 60 (z_upR (rfL (mrow 53) (z_upR MR 51 0 (some 52))) 51 1 (some 53)) MI ML := S_6.le (by decide)
  refine v_dup K dX1_init_26 rfl ?_
  refine v_callN K hN (c_X4_init_59 S_8) rfl wc_X4_init (by decide +kernel) wi_X4 (by decide +kernel) wm_X4_init rfl rfl ⟨Nat.le_of_ble_eq_true rfl, Nat.le_of_ble_eq_true rfl, Nat.le_of_ble_eq_true rfl, Nat.le_of_ble_eq_true rfl⟩ (Nat.le_of_ble_eq_true rfl) dX1_init_27 (fun v9 n9 Q27_9 MR9 MI9 ML9 h9 => ?_)
  obtain ⟨e1, e2, a27_9, e3, e4, e5, S_10⟩ := h9
  subst e1; subst e2
  have e3 := e3.symm
  subst e3
  have e4 := e4.symm
  subst e4
  have e5 := e5.symm
  subst e5
  rw [← a27_9 51 (by decide), ← a27_9 59 (by decide)]
  show V X (11, 1075) 63 Q27_9 (rfL L_X4_init_59 (z_upR (rfL (mrow 53) (z_upR MR 51 0 (some 52))) 51 1 (some 53))) MI ML 30 [(0, .ref (Q27_9 51))] [.ref (Q27_9 59), .ref (Q27_9 51)]
  refine v_putF K hI fp_X1_25 (fun _ => ⟨rfl, rfl⟩) (by decide) rfl rfl dX1_init_30 ?_
  show V X (11, 1075) 63 Q27_9 (z_upR (rfL L_X4_init_59 (z_upR (rfL (mrow 53) (z_upR MR 51 0 (some 52))) 51 1 (some 53))) 51 2 (some 59)) MI ML 33 [(0, .ref (Q27_9 51))] []
  have S_11 : zst 63 (z_upR (rfL L_X4_init_59 (z_upR (rfL (mrow 53) (z_upR MR 51 0 (some 52))) 51 1 (some 53))) 51 2 (some 59)) MI ML := S_10.ref (by decide) (by decide)
  refine v_iconst K dX1_init_33 ?_
  refine v_istore_n K (fun q9 => [(1, .int (iI q9)), (0, .ref (Q27_9 51))]) dX1_init_34 rfl (by decide) (fun _ => rfl) (fun x12 hx12 => ?_)
  obtain rfl : x12 = 0 := hx12
  refine v_iload_n K 0 dX1_init_35 rfl rfl ?_
  refine v_iconst K dX1_init_36 ?_
  refine v_icmp_ge K 59 ⟨by decide, by decide⟩ ⟨by decide, by decide⟩ dX1_init_37 (by decide) (fun h9 => ?_) (fun h9 => ?_)
  · exact absurd h9 (by decide)
  show V X (11, 1075) 63 Q27_9 (z_upR (rfL L_X4_init_59 (z_upR (rfL (mrow 53) (z_upR MR 51 0 (some 52))) 51 1 (some 53))) 51 2 (some 59)) MI ML 40 [(1, .int (iI 0)), (0, .ref (Q27_9 51))] []
  refine v_aload_n K 1 dX1_init_40 rfl rfl ?_
  refine v_getr K ff_X1_11 (by decide) rfl rfl (by rfl) dX1_init_41 ?_
  refine v_iload_n K 0 dX1_init_44 rfl rfl ?_
  refine v_new K fn_X1_9 S_11 rfl rfl (Nat.le_of_ble_eq_true rfl) (Nat.le_of_ble_eq_true rfl) (fun Q8 => [(1, .int (iI 0)), (0, .ref (Q8 51))]) (fun Q8 => [.int (iI 0), .ref (Q8 52)]) (fun Q9 h9 => ⟨by simp only [h9 51 (by decide)], by simp only [h9 52 (by decide)]⟩) dX1_init_45 (fun Q45_13 a45_13 => ?_)
  show V X (12, 1081) 64 Q45_13 (z_upR (rfL L_X4_init_59 (z_upR (rfL (mrow 53) (z_upR MR 51 0 (some 52))) 51 1 (some 53))) 51 2 (some 59)) MI ML 48 [(1, .int (iI 0)), (0, .ref (Q45_13 51))] [.ref (Q45_13 63), .int (iI 0), .ref (Q45_13 52)]
  have S_14 : zst 64 (z_upR (rfL L_X4_init_59 (z_upR (rfL (mrow 53) (z_upR MR 51 0 (some 52))) 51 1 (some 53))) 51 2 (some 59)) MI ML := S_11.le (by decide)
  refine v_dup K dX1_init_48 rfl ?_
  refine v_callN K hN (c_X5_init_63 S_14) rfl wc_X5_init (by decide +kernel) wi_X5 (by decide +kernel) wm_X5_init rfl rfl ⟨Nat.le_of_ble_eq_true rfl, Nat.le_of_ble_eq_true rfl, Nat.le_of_ble_eq_true rfl, Nat.le_of_ble_eq_true rfl⟩ (Nat.le_of_ble_eq_true rfl) dX1_init_49 (fun v9 n9 Q49_15 MR9 MI9 ML9 h9 => ?_)
  obtain ⟨e1, e2, a49_15, e3, e4, e5, S_16⟩ := h9
  subst e1; subst e2
  have e3 := e3.symm
  subst e3
  have e4 := e4.symm
  subst e4
  have e5 := e5.symm
  subst e5
  rw [← a49_15 51 (by decide), ← a49_15 52 (by decide), ← a49_15 63 (by decide)]
  show V X (15, 1114) 67 Q49_15 (rfL L_X5_init_63 (z_upR (rfL L_X4_init_59 (z_upR (rfL (mrow 53) (z_upR MR 51 0 (some 52))) 51 1 (some 53))) 51 2 (some 59))) MI ML 52 [(1, .int (iI 0)), (0, .ref (Q49_15 51))] [.ref (Q49_15 63), .int (iI 0), .ref (Q49_15 52)]
  refine v_aastP K 0 (by decide) rfl (by decide) rfl rfl (by decide) dX1_init_52 ?_
  show V X (15, 1114) 67 Q49_15 (z_upR (rfL L_X5_init_63 (z_upR (rfL L_X4_init_59 (z_upR (rfL (mrow 53) (z_upR MR 51 0 (some 52))) 51 1 (some 53))) 51 2 (some 59))) 52 0 (some 63)) MI ML 53 [(1, .int (iI 0)), (0, .ref (Q49_15 51))] []
  have S_17 : zst 67 (z_upR (rfL L_X5_init_63 (z_upR (rfL L_X4_init_59 (z_upR (rfL (mrow 53) (z_upR MR 51 0 (some 52))) 51 1 (some 53))) 51 2 (some 59))) 52 0 (some 63)) MI ML := S_16.ref (by decide) (by decide)
  refine v_iinc K 0 (fun q9 => [(1, .int (iI q9)), (0, .ref (Q49_15 51))]) dX1_init_53 rfl (by decide) (fun _ => rfl) (fun x18 hx18 => ?_)
  obtain rfl : x18 = 1 := hx18
  refine v_goto K 35 dX1_init_56 (by decide) ?_
  refine v_iload_n K 0 dX1_init_35 rfl rfl ?_
  refine v_iconst K dX1_init_36 ?_
  refine v_icmp_ge K 59 ⟨by decide, by decide⟩ ⟨by decide, by decide⟩ dX1_init_37 (by decide) (fun h9 => ?_) (fun h9 => ?_)
  · exact absurd h9 (by decide)
  show V X (15, 1114) 67 Q49_15 (z_upR (rfL L_X5_init_63 (z_upR (rfL L_X4_init_59 (z_upR (rfL (mrow 53) (z_upR MR 51 0 (some 52))) 51 1 (some 53))) 51 2 (some 59))) 52 0 (some 63)) MI ML 40 [(1, .int (iI 1)), (0, .ref (Q49_15 51))] []
  refine v_aload_n K 1 dX1_init_40 rfl rfl ?_
  refine v_getr K ff_X1_11 (by decide) rfl rfl (by rfl) dX1_init_41 ?_
  refine v_iload_n K 0 dX1_init_44 rfl rfl ?_
  refine v_new K fn_X1_9 S_17 rfl rfl (Nat.le_of_ble_eq_true rfl) (Nat.le_of_ble_eq_true rfl) (fun Q8 => [(1, .int (iI 1)), (0, .ref (Q8 51))]) (fun Q8 => [.int (iI 1), .ref (Q8 52)]) (fun Q9 h9 => ⟨by simp only [h9 51 (by decide)], by simp only [h9 52 (by decide)]⟩) dX1_init_45 (fun Q45_19 a45_19 => ?_)
  show V X (16, 1120) 68 Q45_19 (z_upR (rfL L_X5_init_63 (z_upR (rfL L_X4_init_59 (z_upR (rfL (mrow 53) (z_upR MR 51 0 (some 52))) 51 1 (some 53))) 51 2 (some 59))) 52 0 (some 63)) MI ML 48 [(1, .int (iI 1)), (0, .ref (Q45_19 51))] [.ref (Q45_19 67), .int (iI 1), .ref (Q45_19 52)]
  have S_20 : zst 68 (z_upR (rfL L_X5_init_63 (z_upR (rfL L_X4_init_59 (z_upR (rfL (mrow 53) (z_upR MR 51 0 (some 52))) 51 1 (some 53))) 51 2 (some 59))) 52 0 (some 63)) MI ML := S_17.le (by decide)
  refine v_dup K dX1_init_48 rfl ?_
  refine v_callN K hN (c_X5_init_67 S_20) rfl wc_X5_init (by decide +kernel) wi_X5 (by decide +kernel) wm_X5_init rfl rfl ⟨Nat.le_of_ble_eq_true rfl, Nat.le_of_ble_eq_true rfl, Nat.le_of_ble_eq_true rfl, Nat.le_of_ble_eq_true rfl⟩ (Nat.le_of_ble_eq_true rfl) dX1_init_49 (fun v9 n9 Q49_21 MR9 MI9 ML9 h9 => ?_)
  obtain ⟨e1, e2, a49_21, e3, e4, e5, S_22⟩ := h9
  subst e1; subst e2
  have e3 := e3.symm
  subst e3
  have e4 := e4.symm
  subst e4
  have e5 := e5.symm
  subst e5
  rw [← a49_21 51 (by decide), ← a49_21 52 (by decide), ← a49_21 67 (by decide)]
  show V X (19, 1153) 71 Q49_21 (rfL L_X5_init_67 (z_upR (rfL L_X5_init_63 (z_upR (rfL L_X4_init_59 (z_upR (rfL (mrow 53) (z_upR MR 51 0 (some 52))) 51 1 (some 53))) 51 2 (some 59))) 52 0 (some 63))) MI ML 52 [(1, .int (iI 1)), (0, .ref (Q49_21 51))] [.ref (Q49_21 67), .int (iI 1), .ref (Q49_21 52)]
  refine v_aastP K 1 (by decide) rfl (by decide) rfl rfl (by decide) dX1_init_52 ?_
  show V X (19, 1153) 71 Q49_21 (z_upR (rfL L_X5_init_67 (z_upR (rfL L_X5_init_63 (z_upR (rfL L_X4_init_59 (z_upR (rfL (mrow 53) (z_upR MR 51 0 (some 52))) 51 1 (some 53))) 51 2 (some 59))) 52 0 (some 63))) 52 1 (some 67)) MI ML 53 [(1, .int (iI 1)), (0, .ref (Q49_21 51))] []
  have S_23 : zst 71 (z_upR (rfL L_X5_init_67 (z_upR (rfL L_X5_init_63 (z_upR (rfL L_X4_init_59 (z_upR (rfL (mrow 53) (z_upR MR 51 0 (some 52))) 51 1 (some 53))) 51 2 (some 59))) 52 0 (some 63))) 52 1 (some 67)) MI ML := S_22.ref (by decide) (by decide)
  refine v_iinc K 0 (fun q9 => [(1, .int (iI q9)), (0, .ref (Q49_21 51))]) dX1_init_53 rfl (by decide) (fun _ => rfl) (fun x24 hx24 => ?_)
  obtain rfl : x24 = 2 := hx24
  refine v_goto K 35 dX1_init_56 (by decide) ?_
  refine v_iload_n K 0 dX1_init_35 rfl rfl ?_
  refine v_iconst K dX1_init_36 ?_
  refine v_icmp_ge K 59 ⟨by decide, by decide⟩ ⟨by decide, by decide⟩ dX1_init_37 (by decide) (fun h9 => ?_) (fun h9 => ?_)
  · exact absurd h9 (by decide)
  show V X (19, 1153) 71 Q49_21 (z_upR (rfL L_X5_init_67 (z_upR (rfL L_X5_init_63 (z_upR (rfL L_X4_init_59 (z_upR (rfL (mrow 53) (z_upR MR 51 0 (some 52))) 51 1 (some 53))) 51 2 (some 59))) 52 0 (some 63))) 52 1 (some 67)) MI ML 40 [(1, .int (iI 2)), (0, .ref (Q49_21 51))] []
  refine v_aload_n K 1 dX1_init_40 rfl rfl ?_
  refine v_getr K ff_X1_11 (by decide) rfl rfl (by rfl) dX1_init_41 ?_
  refine v_iload_n K 0 dX1_init_44 rfl rfl ?_
  refine v_new K fn_X1_9 S_23 rfl rfl (Nat.le_of_ble_eq_true rfl) (Nat.le_of_ble_eq_true rfl) (fun Q8 => [(1, .int (iI 2)), (0, .ref (Q8 51))]) (fun Q8 => [.int (iI 2), .ref (Q8 52)]) (fun Q9 h9 => ⟨by simp only [h9 51 (by decide)], by simp only [h9 52 (by decide)]⟩) dX1_init_45 (fun Q45_25 a45_25 => ?_)
  show V X (20, 1159) 72 Q45_25 (z_upR (rfL L_X5_init_67 (z_upR (rfL L_X5_init_63 (z_upR (rfL L_X4_init_59 (z_upR (rfL (mrow 53) (z_upR MR 51 0 (some 52))) 51 1 (some 53))) 51 2 (some 59))) 52 0 (some 63))) 52 1 (some 67)) MI ML 48 [(1, .int (iI 2)), (0, .ref (Q45_25 51))] [.ref (Q45_25 71), .int (iI 2), .ref (Q45_25 52)]
  have S_26 : zst 72 (z_upR (rfL L_X5_init_67 (z_upR (rfL L_X5_init_63 (z_upR (rfL L_X4_init_59 (z_upR (rfL (mrow 53) (z_upR MR 51 0 (some 52))) 51 1 (some 53))) 51 2 (some 59))) 52 0 (some 63))) 52 1 (some 67)) MI ML := S_23.le (by decide)
  refine v_dup K dX1_init_48 rfl ?_
  refine v_callN K hN (c_X5_init_71 S_26) rfl wc_X5_init (by decide +kernel) wi_X5 (by decide +kernel) wm_X5_init rfl rfl ⟨Nat.le_of_ble_eq_true rfl, Nat.le_of_ble_eq_true rfl, Nat.le_of_ble_eq_true rfl, Nat.le_of_ble_eq_true rfl⟩ (Nat.le_of_ble_eq_true rfl) dX1_init_49 (fun v9 n9 Q49_27 MR9 MI9 ML9 h9 => ?_)
  obtain ⟨e1, e2, a49_27, e3, e4, e5, S_28⟩ := h9
  subst e1; subst e2
  have e3 := e3.symm
  subst e3
  have e4 := e4.symm
  subst e4
  have e5 := e5.symm
  subst e5
  rw [← a49_27 51 (by decide), ← a49_27 52 (by decide), ← a49_27 71 (by decide)]
  show V X (23, 1192) 75 Q49_27 (rfL L_X5_init_71 (z_upR (rfL L_X5_init_67 (z_upR (rfL L_X5_init_63 (z_upR (rfL L_X4_init_59 (z_upR (rfL (mrow 53) (z_upR MR 51 0 (some 52))) 51 1 (some 53))) 51 2 (some 59))) 52 0 (some 63))) 52 1 (some 67))) MI ML 52 [(1, .int (iI 2)), (0, .ref (Q49_27 51))] [.ref (Q49_27 71), .int (iI 2), .ref (Q49_27 52)]
  refine v_aastP K 2 (by decide) rfl (by decide) rfl rfl (by decide) dX1_init_52 ?_
  show V X (23, 1192) 75 Q49_27 (z_upR (rfL L_X5_init_71 (z_upR (rfL L_X5_init_67 (z_upR (rfL L_X5_init_63 (z_upR (rfL L_X4_init_59 (z_upR (rfL (mrow 53) (z_upR MR 51 0 (some 52))) 51 1 (some 53))) 51 2 (some 59))) 52 0 (some 63))) 52 1 (some 67))) 52 2 (some 71)) MI ML 53 [(1, .int (iI 2)), (0, .ref (Q49_27 51))] []
  have S_29 : zst 75 (z_upR (rfL L_X5_init_71 (z_upR (rfL L_X5_init_67 (z_upR (rfL L_X5_init_63 (z_upR (rfL L_X4_init_59 (z_upR (rfL (mrow 53) (z_upR MR 51 0 (some 52))) 51 1 (some 53))) 51 2 (some 59))) 52 0 (some 63))) 52 1 (some 67))) 52 2 (some 71)) MI ML := S_28.ref (by decide) (by decide)
  refine v_iinc K 0 (fun q9 => [(1, .int (iI q9)), (0, .ref (Q49_27 51))]) dX1_init_53 rfl (by decide) (fun _ => rfl) (fun x30 hx30 => ?_)
  obtain rfl : x30 = 3 := hx30
  refine v_goto K 35 dX1_init_56 (by decide) ?_
  refine v_iload_n K 0 dX1_init_35 rfl rfl ?_
  refine v_iconst K dX1_init_36 ?_
  refine v_icmp_ge K 59 ⟨by decide, by decide⟩ ⟨by decide, by decide⟩ dX1_init_37 (by decide) (fun h9 => ?_) (fun h9 => ?_)
  · exact absurd h9 (by decide)
  show V X (23, 1192) 75 Q49_27 (z_upR (rfL L_X5_init_71 (z_upR (rfL L_X5_init_67 (z_upR (rfL L_X5_init_63 (z_upR (rfL L_X4_init_59 (z_upR (rfL (mrow 53) (z_upR MR 51 0 (some 52))) 51 1 (some 53))) 51 2 (some 59))) 52 0 (some 63))) 52 1 (some 67))) 52 2 (some 71)) MI ML 40 [(1, .int (iI 3)), (0, .ref (Q49_27 51))] []
  refine v_aload_n K 1 dX1_init_40 rfl rfl ?_
  refine v_getr K ff_X1_11 (by decide) rfl rfl (by rfl) dX1_init_41 ?_
  refine v_iload_n K 0 dX1_init_44 rfl rfl ?_
  refine v_new K fn_X1_9 S_29 rfl rfl (Nat.le_of_ble_eq_true rfl) (Nat.le_of_ble_eq_true rfl) (fun Q8 => [(1, .int (iI 3)), (0, .ref (Q8 51))]) (fun Q8 => [.int (iI 3), .ref (Q8 52)]) (fun Q9 h9 => ⟨by simp only [h9 51 (by decide)], by simp only [h9 52 (by decide)]⟩) dX1_init_45 (fun Q45_31 a45_31 => ?_)
  show V X (24, 1198) 76 Q45_31 (z_upR (rfL L_X5_init_71 (z_upR (rfL L_X5_init_67 (z_upR (rfL L_X5_init_63 (z_upR (rfL L_X4_init_59 (z_upR (rfL (mrow 53) (z_upR MR 51 0 (some 52))) 51 1 (some 53))) 51 2 (some 59))) 52 0 (some 63))) 52 1 (some 67))) 52 2 (some 71)) MI ML 48 [(1, .int (iI 3)), (0, .ref (Q45_31 51))] [.ref (Q45_31 75), .int (iI 3), .ref (Q45_31 52)]
  have S_32 : zst 76 (z_upR (rfL L_X5_init_71 (z_upR (rfL L_X5_init_67 (z_upR (rfL L_X5_init_63 (z_upR (rfL L_X4_init_59 (z_upR (rfL (mrow 53) (z_upR MR 51 0 (some 52))) 51 1 (some 53))) 51 2 (some 59))) 52 0 (some 63))) 52 1 (some 67))) 52 2 (some 71)) MI ML := S_29.le (by decide)
  refine v_dup K dX1_init_48 rfl ?_
  refine v_callN K hN (c_X5_init_75 S_32) rfl wc_X5_init (by decide +kernel) wi_X5 (by decide +kernel) wm_X5_init rfl rfl ⟨Nat.le_of_ble_eq_true rfl, Nat.le_of_ble_eq_true rfl, Nat.le_of_ble_eq_true rfl, Nat.le_of_ble_eq_true rfl⟩ (Nat.le_of_ble_eq_true rfl) dX1_init_49 (fun v9 n9 Q49_33 MR9 MI9 ML9 h9 => ?_)
  obtain ⟨e1, e2, a49_33, e3, e4, e5, S_34⟩ := h9
  subst e1; subst e2
  have e3 := e3.symm
  subst e3
  have e4 := e4.symm
  subst e4
  have e5 := e5.symm
  subst e5
  rw [← a49_33 51 (by decide), ← a49_33 52 (by decide), ← a49_33 75 (by decide)]
  show V X (27, 1231) 79 Q49_33 (rfL L_X5_init_75 (z_upR (rfL L_X5_init_71 (z_upR (rfL L_X5_init_67 (z_upR (rfL L_X5_init_63 (z_upR (rfL L_X4_init_59 (z_upR (rfL (mrow 53) (z_upR MR 51 0 (some 52))) 51 1 (some 53))) 51 2 (some 59))) 52 0 (some 63))) 52 1 (some 67))) 52 2 (some 71))) MI ML 52 [(1, .int (iI 3)), (0, .ref (Q49_33 51))] [.ref (Q49_33 75), .int (iI 3), .ref (Q49_33 52)]
  refine v_aastP K 3 (by decide) rfl (by decide) rfl rfl (by decide) dX1_init_52 ?_
  show V X (27, 1231) 79 Q49_33 (z_upR (rfL L_X5_init_75 (z_upR (rfL L_X5_init_71 (z_upR (rfL L_X5_init_67 (z_upR (rfL L_X5_init_63 (z_upR (rfL L_X4_init_59 (z_upR (rfL (mrow 53) (z_upR MR 51 0 (some 52))) 51 1 (some 53))) 51 2 (some 59))) 52 0 (some 63))) 52 1 (some 67))) 52 2 (some 71))) 52 3 (some 75)) MI ML 53 [(1, .int (iI 3)), (0, .ref (Q49_33 51))] []
  have S_35 : zst 79 (z_upR (rfL L_X5_init_75 (z_upR (rfL L_X5_init_71 (z_upR (rfL L_X5_init_67 (z_upR (rfL L_X5_init_63 (z_upR (rfL L_X4_init_59 (z_upR (rfL (mrow 53) (z_upR MR 51 0 (some 52))) 51 1 (some 53))) 51 2 (some 59))) 52 0 (some 63))) 52 1 (some 67))) 52 2 (some 71))) 52 3 (some 75)) MI ML := S_34.ref (by decide) (by decide)
  refine v_iinc K 0 (fun q9 => [(1, .int (iI q9)), (0, .ref (Q49_33 51))]) dX1_init_53 rfl (by decide) (fun _ => rfl) (fun x36 hx36 => ?_)
  obtain rfl : x36 = 4 := hx36
  refine v_goto K 35 dX1_init_56 (by decide) ?_
  refine v_iload_n K 0 dX1_init_35 rfl rfl ?_
  refine v_iconst K dX1_init_36 ?_
  refine v_icmp_ge K 59 ⟨by decide, by decide⟩ ⟨by decide, by decide⟩ dX1_init_37 (by decide) (fun h9 => ?_) (fun h9 => ?_)
  · exact absurd h9 (by decide)
  show V X (27, 1231) 79 Q49_33 (z_upR (rfL L_X5_init_75 (z_upR (rfL L_X5_init_71 (z_upR (rfL L_X5_init_67 (z_upR (rfL L_X5_init_63 (z_upR (rfL L_X4_init_59 (z_upR (rfL (mrow 53) (z_upR MR 51 0 (some 52))) 51 1 (some 53))) 51 2 (some 59))) 52 0 (some 63))) 52 1 (some 67))) 52 2 (some 71))) 52 3 (some 75)) MI ML 40 [(1, .int (iI 4)), (0, .ref (Q49_33 51))] []
  refine v_aload_n K 1 dX1_init_40 rfl rfl ?_
  refine v_getr K ff_X1_11 (by decide) rfl rfl (by rfl) dX1_init_41 ?_
  refine v_iload_n K 0 dX1_init_44 rfl rfl ?_
  refine v_new K fn_X1_9 S_35 rfl rfl (Nat.le_of_ble_eq_true rfl) (Nat.le_of_ble_eq_true rfl) (fun Q8 => [(1, .int (iI 4)), (0, .ref (Q8 51))]) (fun Q8 => [.int (iI 4), .ref (Q8 52)]) (fun Q9 h9 => ⟨by simp only [h9 51 (by decide)], by simp only [h9 52 (by decide)]⟩) dX1_init_45 (fun Q45_37 a45_37 => ?_)
  show V X (28, 1237) 80 Q45_37 (z_upR (rfL L_X5_init_75 (z_upR (rfL L_X5_init_71 (z_upR (rfL L_X5_init_67 (z_upR (rfL L_X5_init_63 (z_upR (rfL L_X4_init_59 (z_upR (rfL (mrow 53) (z_upR MR 51 0 (some 52))) 51 1 (some 53))) 51 2 (some 59))) 52 0 (some 63))) 52 1 (some 67))) 52 2 (some 71))) 52 3 (some 75)) MI ML 48 [(1, .int (iI 4)), (0, .ref (Q45_37 51))] [.ref (Q45_37 79), .int (iI 4), .ref (Q45_37 52)]
  have S_38 : zst 80 (z_upR (rfL L_X5_init_75 (z_upR (rfL L_X5_init_71 (z_upR (rfL L_X5_init_67 (z_upR (rfL L_X5_init_63 (z_upR (rfL L_X4_init_59 (z_upR (rfL (mrow 53) (z_upR MR 51 0 (some 52))) 51 1 (some 53))) 51 2 (some 59))) 52 0 (some 63))) 52 1 (some 67))) 52 2 (some 71))) 52 3 (some 75)) MI ML := S_35.le (by decide)
  refine v_dup K dX1_init_48 rfl ?_
  refine v_callN K hN (c_X5_init_79 S_38) rfl wc_X5_init (by decide +kernel) wi_X5 (by decide +kernel) wm_X5_init rfl rfl ⟨Nat.le_of_ble_eq_true rfl, Nat.le_of_ble_eq_true rfl, Nat.le_of_ble_eq_true rfl, Nat.le_of_ble_eq_true rfl⟩ (Nat.le_of_ble_eq_true rfl) dX1_init_49 (fun v9 n9 Q49_39 MR9 MI9 ML9 h9 => ?_)
  obtain ⟨e1, e2, a49_39, e3, e4, e5, S_40⟩ := h9
  subst e1; subst e2
  have e3 := e3.symm
  subst e3
  have e4 := e4.symm
  subst e4
  have e5 := e5.symm
  subst e5
  rw [← a49_39 51 (by decide), ← a49_39 52 (by decide), ← a49_39 79 (by decide)]
  show V X (31, 1270) 83 Q49_39 (rfL L_X5_init_79 (z_upR (rfL L_X5_init_75 (z_upR (rfL L_X5_init_71 (z_upR (rfL L_X5_init_67 (z_upR (rfL L_X5_init_63 (z_upR (rfL L_X4_init_59 (z_upR (rfL (mrow 53) (z_upR MR 51 0 (some 52))) 51 1 (some 53))) 51 2 (some 59))) 52 0 (some 63))) 52 1 (some 67))) 52 2 (some 71))) 52 3 (some 75))) MI ML 52 [(1, .int (iI 4)), (0, .ref (Q49_39 51))] [.ref (Q49_39 79), .int (iI 4), .ref (Q49_39 52)]
  refine v_aastP K 4 (by decide) rfl (by decide) rfl rfl (by decide) dX1_init_52 ?_
  show V X (31, 1270) 83 Q49_39 (z_upR (rfL L_X5_init_79 (z_upR (rfL L_X5_init_75 (z_upR (rfL L_X5_init_71 (z_upR (rfL L_X5_init_67 (z_upR (rfL L_X5_init_63 (z_upR (rfL L_X4_init_59 (z_upR (rfL (mrow 53) (z_upR MR 51 0 (some 52))) 51 1 (some 53))) 51 2 (some 59))) 52 0 (some 63))) 52 1 (some 67))) 52 2 (some 71))) 52 3 (some 75))) 52 4 (some 79)) MI ML 53 [(1, .int (iI 4)), (0, .ref (Q49_39 51))] []
  have S_41 : zst 83 (z_upR (rfL L_X5_init_79 (z_upR (rfL L_X5_init_75 (z_upR (rfL L_X5_init_71 (z_upR (rfL L_X5_init_67 (z_upR (rfL L_X5_init_63 (z_upR (rfL L_X4_init_59 (z_upR (rfL (mrow 53) (z_upR MR 51 0 (some 52))) 51 1 (some 53))) 51 2 (some 59))) 52 0 (some 63))) 52 1 (some 67))) 52 2 (some 71))) 52 3 (some 75))) 52 4 (some 79)) MI ML := S_40.ref (by decide) (by decide)
  refine v_iinc K 0 (fun q9 => [(1, .int (iI q9)), (0, .ref (Q49_39 51))]) dX1_init_53 rfl (by decide) (fun _ => rfl) (fun x42 hx42 => ?_)
  obtain rfl : x42 = 5 := hx42
  refine v_goto K 35 dX1_init_56 (by decide) ?_
  refine v_iload_n K 0 dX1_init_35 rfl rfl ?_
  refine v_iconst K dX1_init_36 ?_
  refine v_icmp_ge K 59 ⟨by decide, by decide⟩ ⟨by decide, by decide⟩ dX1_init_37 (by decide) (fun h9 => ?_) (fun h9 => ?_)
  case refine_2 => exact absurd h9 (by decide)
  show V X (31, 1270) 83 Q49_39 (z_upR (rfL L_X5_init_79 (z_upR (rfL L_X5_init_75 (z_upR (rfL L_X5_init_71 (z_upR (rfL L_X5_init_67 (z_upR (rfL L_X5_init_63 (z_upR (rfL L_X4_init_59 (z_upR (rfL (mrow 53) (z_upR MR 51 0 (some 52))) 51 1 (some 53))) 51 2 (some 59))) 52 0 (some 63))) 52 1 (some 67))) 52 2 (some 71))) 52 3 (some 75))) 52 4 (some 79)) MI ML 59 [(1, .int (iI 5)), (0, .ref (Q49_39 51))] []
  exact v_ret K E dX1_init_59 ⟨rfl, rfl, (((((((((((((((agr.rf _ _).tr a6_1 (by decide)).tr a15_4 (by decide)).tr a23_7 (by decide)).tr a27_9 (by decide)).tr a45_13 (by decide)).tr a49_15 (by decide)).tr a45_19 (by decide)).tr a49_21 (by decide)).tr a45_25 (by decide)).tr a49_27 (by decide)).tr a45_31 (by decide)).tr a49_33 (by decide)).tr a45_37 (by decide)).tr a49_39 (by decide)), rfl, rfl, rfl, S_41⟩
def L_X6_init_83 : List (Nat × Nat × Nat) := [(83, 0, 84)]
set_option maxRecDepth 100000 in
set_option maxHeartbeats 4000000 in
theorem c_X6_init_83 {l : Launch} {D : va_G} {Z : ZC} {Q : Nat → Nat} {MR : ZR} {MI ML : ZM} (S : zst 84 MR MI ML) : CMg l yX6_init cX6_init 1 none 1 12 1 30 D Z 84 Q MR [.ref (Q 83)] MI ML (fun v n' Q' MR' MI' ML' => v = none ∧ n' = 85 ∧ agr 84 Q Q' ∧ MR' = rfL L_X6_init_83 MR ∧ MI' = MI ∧ ML' = ML ∧ zst 85 MR' MI' ML') := by
  refine CMg.of (by decide +kernel) rfl (Nat.le_of_ble_eq_true rfl) ?_
  intro X K E _ _ _ hN hI
  show V X (0, 0) 84 Q MR MI ML 0 [(0, .ref (Q 83))] []
  refine v_aload_n K 0 dX6_init_0 rfl rfl ?_
  refine v_objI K ob_X6_3 ob_m ob_c (by decide) (by decide) dX6_init_1 ?_
  refine v_aload_n K 0 dX6_init_4 rfl rfl ?_
  refine v_bipush K dX6_init_5 (by decide) ?_
  refine v_newi K 30 rfl (by decide) ac_int S rfl rfl (Nat.le_of_ble_eq_true rfl) (Nat.le_of_ble_eq_true rfl) (fun Q8 => [(0, .ref (Q8 83))]) (fun Q8 => [.ref (Q8 83)]) (fun Q9 h9 => ⟨by simp only [h9 83 (by decide)], by simp only [h9 83 (by decide)]⟩) dX6_init_7 (fun Q7_1 a7_1 => ?_)
  show V X (1, 30) 85 Q7_1 MR MI ML 9 [(0, .ref (Q7_1 83))] [.ref (Q7_1 84), .ref (Q7_1 83)]
  have S_2 : zst 85 MR MI ML := S.le (by decide)
  refine v_putF K hI fp_X6_9 (fun _ => ⟨rfl, rfl⟩) (by decide) rfl rfl dX6_init_9 ?_
  show V X (1, 30) 85 Q7_1 (z_upR MR 83 0 (some 84)) MI ML 12 [(0, .ref (Q7_1 83))] []
  have S_3 : zst 85 (z_upR MR 83 0 (some 84)) MI ML := S_2.ref (by decide) (by decide)
  exact v_ret K E dX6_init_12 ⟨rfl, rfl, ((agr.rf _ _).tr a7_1 (by decide)), rfl, rfl, rfl, S_3⟩
def L_X5_init_85 : List (Nat × Nat × Nat) := [(85, 0, 86), (85, 1, 87), (85, 2, 88)]
set_option maxRecDepth 100000 in
set_option maxHeartbeats 4000000 in
theorem c_X5_init_85 {l : Launch} {D : va_G} {Z : ZC} {Q : Nat → Nat} {MR : ZR} {MI ML : ZM} (S : zst 86 MR MI ML) : CMg l yX5_init cX5_init 1 none 1 12 3 33 D Z 86 Q MR [.ref (Q 85)] MI ML (fun v n' Q' MR' MI' ML' => v = none ∧ n' = 89 ∧ agr 86 Q Q' ∧ MR' = rfL L_X5_init_85 MR ∧ MI' = MI ∧ ML' = ML ∧ zst 89 MR' MI' ML') := by
  refine CMg.of (by decide +kernel) rfl (Nat.le_of_ble_eq_true rfl) ?_
  intro X K E _ _ _ hN hI
  show V X (0, 0) 86 Q MR MI ML 0 [(0, .ref (Q 85))] []
  refine v_aload_n K 0 dX5_init_0 rfl rfl ?_
  refine v_objI K ob_X5_3 ob_m ob_c (by decide) (by decide) dX5_init_1 ?_
  refine v_aload_n K 0 dX5_init_4 rfl rfl ?_
  refine v_bipush K dX5_init_5 (by decide) ?_
  refine v_newi K 10 rfl (by decide) ac_int S rfl rfl (Nat.le_of_ble_eq_true rfl) (Nat.le_of_ble_eq_true rfl) (fun Q8 => [(0, .ref (Q8 85))]) (fun Q8 => [.ref (Q8 85)]) (fun Q9 h9 => ⟨by simp only [h9 85 (by decide)], by simp only [h9 85 (by decide)]⟩) dX5_init_7 (fun Q7_1 a7_1 => ?_)
  show V X (1, 10) 87 Q7_1 MR MI ML 9 [(0, .ref (Q7_1 85))] [.ref (Q7_1 86), .ref (Q7_1 85)]
  have S_2 : zst 87 MR MI ML := S.le (by decide)
  refine v_putF K hI fp_X5_9 (fun _ => ⟨rfl, rfl⟩) (by decide) rfl rfl dX5_init_9 ?_
  show V X (1, 10) 87 Q7_1 (z_upR MR 85 0 (some 86)) MI ML 12 [(0, .ref (Q7_1 85))] []
  have S_3 : zst 87 (z_upR MR 85 0 (some 86)) MI ML := S_2.ref (by decide) (by decide)
  refine v_aload_n K 0 dX5_init_12 rfl rfl ?_
  refine v_bipush K dX5_init_13 (by decide) ?_
  refine v_newi K 13 rfl (by decide) ac_int S_3 rfl rfl (Nat.le_of_ble_eq_true rfl) (Nat.le_of_ble_eq_true rfl) (fun Q8 => [(0, .ref (Q8 85))]) (fun Q8 => [.ref (Q8 85)]) (fun Q9 h9 => ⟨by simp only [h9 85 (by decide)], by simp only [h9 85 (by decide)]⟩) dX5_init_15 (fun Q15_4 a15_4 => ?_)
  show V X (2, 23) 88 Q15_4 (z_upR MR 85 0 (some 86)) MI ML 17 [(0, .ref (Q15_4 85))] [.ref (Q15_4 87), .ref (Q15_4 85)]
  have S_5 : zst 88 (z_upR MR 85 0 (some 86)) MI ML := S_3.le (by decide)
  refine v_putF K hI fp_X5_15 (fun _ => ⟨rfl, rfl⟩) (by decide) rfl rfl dX5_init_17 ?_
  show V X (2, 23) 88 Q15_4 (z_upR (z_upR MR 85 0 (some 86)) 85 1 (some 87)) MI ML 20 [(0, .ref (Q15_4 85))] []
  have S_6 : zst 88 (z_upR (z_upR MR 85 0 (some 86)) 85 1 (some 87)) MI ML := S_5.ref (by decide) (by decide)
  refine v_aload_n K 0 dX5_init_20 rfl rfl ?_
  refine v_bipush K dX5_init_21 (by decide) ?_
  refine v_newi K 10 rfl (by decide) ac_int S_6 rfl rfl (Nat.le_of_ble_eq_true rfl) (Nat.le_of_ble_eq_true rfl) (fun Q8 => [(0, .ref (Q8 85))]) (fun Q8 => [.ref (Q8 85)]) (fun Q9 h9 => ⟨by simp only [h9 85 (by decide)], by simp only [h9 85 (by decide)]⟩) dX5_init_23 (fun Q23_7 a23_7 => ?_)
  show V X (3, 33) 89 Q23_7 (z_upR (z_upR MR 85 0 (some 86)) 85 1 (some 87)) MI ML 25 [(0, .ref (Q23_7 85))] [.ref (Q23_7 88), .ref (Q23_7 85)]
  have S_8 : zst 89 (z_upR (z_upR MR 85 0 (some 86)) 85 1 (some 87)) MI ML := S_6.le (by decide)
  refine v_putF K hI fp_X5_18 (fun _ => ⟨rfl, rfl⟩) (by decide) rfl rfl dX5_init_25 ?_
  show V X (3, 33) 89 Q23_7 (z_upR (z_upR (z_upR MR 85 0 (some 86)) 85 1 (some 87)) 85 2 (some 88)) MI ML 28 [(0, .ref (Q23_7 85))] []
  have S_9 : zst 89 (z_upR (z_upR (z_upR MR 85 0 (some 86)) 85 1 (some 87)) 85 2 (some 88)) MI ML := S_8.ref (by decide) (by decide)
  exact v_ret K E dX5_init_28 ⟨rfl, rfl, ((((agr.rf _ _).tr a7_1 (by decide)).tr a15_4 (by decide)).tr a23_7 (by decide)), rfl, rfl, rfl, S_9⟩
def L_X8_init_0 : List (Nat × Nat × Nat) := [(1, 0, 2), (1, 1, 3), (1, 2, 4), (0, 0, 1), (0, 1, 5), (6, 0, 7), (5, 0, 6), (8, 0, 9), (5, 1, 8), (10, 0, 11), (5, 2, 10), (12, 0, 13), (5, 3, 12), (14, 0, 15), (5, 4, 14), (16, 0, 17), (16, 1, 18), (16, 3, 1), (0, 2, 16), (19, 0, 20), (21, 0, 22), (21, 1, 23), (21, 2, 24), (21, 3, 25), (21, 4, 26), (19, 1, 21), (27, 0, 28), (27, 2, 29), (27, 4, 30), (19, 2, 27), (31, 0, 32), (31, 1, 33), (31, 2, 34), (20, 0, 31), (35, 0, 36), (35, 1, 37), (35, 2, 38), (20, 1, 35), (39, 0, 40), (39, 1, 41), (39, 2, 42), (20, 2, 39), (43, 0, 44), (43, 1, 45), (43, 2, 46), (20, 3, 43), (47, 0, 48), (47, 1, 49), (47, 2, 50), (20, 4, 47), (0, 3, 19), (51, 0, 52), (53, 0, 54), (53, 1, 55), (53, 2, 56), (53, 3, 57), (53, 4, 58), (51, 1, 53), (59, 0, 60), (59, 2, 61), (59, 4, 62), (51, 2, 59), (63, 0, 64), (63, 1, 65), (63, 2, 66), (52, 0, 63), (67, 0, 68), (67, 1, 69), (67, 2, 70), (52, 1, 67), (71, 0, 72), (71, 1, 73), (71, 2, 74), (52, 2, 71), (75, 0, 76), (75, 1, 77), (75, 2, 78), (52, 3, 75), (79, 0, 80), (79, 1, 81), (79, 2, 82), (52, 4, 79), (0, 4, 51), (83, 0, 84), (0, 5, 83), (85, 0, 86), (85, 1, 87), (85, 2, 88), (0, 6, 85), (0, 7, 89)]
set_option maxRecDepth 100000 in
set_option maxHeartbeats 4000000 in
theorem c_X8_init_0 {l : Launch} {D : va_G} {Z : ZC} {Q : Nat → Nat} {MR : ZR} {MI ML : ZM} (S : zst 1 MR MI ML) : CMg l yX8_init cX8_init 2 none 3 53 89 2739 D Z 1 Q MR [.ref (Q 0)] MI ML (fun v n' Q' MR' MI' ML' => v = none ∧ n' = 90 ∧ agr 1 Q Q' ∧ MR' = rfL L_X8_init_0 MR ∧ MI' = (z_up MI 0 9 12) ∧ ML' = ML ∧ zst 90 MR' MI' ML') := by
  refine CMg.of (by decide +kernel) rfl (Nat.le_of_ble_eq_true rfl) ?_
  intro X K E _ _ _ hN hI
  show V X (0, 0) 1 Q MR MI ML 0 [(0, .ref (Q 0))] []
  refine v_aload_n K 0 dX8_init_0 rfl rfl ?_
  refine v_objI K ob_X8_1 ob_m ob_c (by decide) (by decide) dX8_init_1 ?_
  refine v_aload_n K 0 dX8_init_4 rfl rfl ?_
  refine v_new K fn_X8_7 S rfl rfl (Nat.le_of_ble_eq_true rfl) (Nat.le_of_ble_eq_true rfl) (fun Q8 => [(0, .ref (Q8 0))]) (fun Q8 => [.ref (Q8 0)]) (fun Q9 h9 => ⟨by simp only [h9 0 (by decide)], by simp only [h9 0 (by decide)]⟩) dX8_init_5 (fun Q5_1 a5_1 => ?_)
  show V X (1, 4) 2 Q5_1 MR MI ML 8 [(0, .ref (Q5_1 0))] [.ref (Q5_1 1), .ref (Q5_1 0)]
  have S_2 : zst 2 MR MI ML := S.le (by decide)
  refine v_dup K dX8_init_8 rfl ?_
  refine v_callN K hN (c_X0_init_1 S_2) rfl wc_X0_init (by decide +kernel) wi_X0 (by decide +kernel) wm_X0_init rfl rfl ⟨Nat.le_of_ble_eq_true rfl, Nat.le_of_ble_eq_true rfl, Nat.le_of_ble_eq_true rfl, Nat.le_of_ble_eq_true rfl⟩ (Nat.le_of_ble_eq_true rfl) dX8_init_9 (fun v9 n9 Q9_3 MR9 MI9 ML9 h9 => ?_)
  obtain ⟨e1, e2, a9_3, e3, e4, e5, S_4⟩ := h9
  subst e1; subst e2
  have e3 := e3.symm
  subst e3
  have e4 := e4.symm
  subst e4
  have e5 := e5.symm
  subst e5
  rw [← a9_3 0 (by decide), ← a9_3 1 (by decide)]
  show V X (4, 40) 5 Q9_3 (rfL L_X0_init_1 MR) MI ML 12 [(0, .ref (Q9_3 0))] [.ref (Q9_3 1), .ref (Q9_3 0)]
  refine v_putF K hI fp_X8_10 (fun _ => ⟨rfl, rfl⟩) (by decide) rfl rfl dX8_init_12 ?_
  show V X (4, 40) 5 Q9_3 (z_upR (rfL L_X0_init_1 MR) 0 0 (some 1)) MI ML 15 [(0, .ref (Q9_3 0))] []
  have S_5 : zst 5 (z_upR (rfL L_X0_init_1 MR) 0 0 (some 1)) MI ML := S_4.ref (by decide) (by decide)
  refine v_aload_n K 0 dX8_init_15 rfl rfl ?_
  refine v_iconst K dX8_init_16 ?_
  refine v_newqD K 5 rfl (by decide) cl_X8_16 S_5 rfl rfl (Nat.le_of_ble_eq_true rfl) (Nat.le_of_ble_eq_true rfl) (fun Q8 => [(0, .ref (Q8 0))]) (fun Q8 => [.ref (Q8 0)]) (fun Q9 h9 => ⟨by simp only [h9 0 (by decide)], by simp only [h9 0 (by decide)]⟩) dX8_init_17 (fun Q17_6 a17_6 => ?_)
  show V X (5, 45) 6 Q17_6 (z_upR (rfL L_X0_init_1 MR) 0 0 (some 1)) MI ML 20 [(0, .ref (Q17_6 0))] [.ref (Q17_6 5), .ref (Q17_6 0)]
  have S_7 : zst 6 (z_upR (rfL L_X0_init_1 MR) 0 0 (some 1)) MI ML := S_5.le (by decide)
  refine v_putF K hI fp_X8_18 (fun _ => ⟨rfl, rfl⟩) (by decide) rfl rfl dX8_init_20 ?_
  show V X (5, 45) 6 Q17_6 (z_upR (z_upR (rfL L_X0_init_1 MR) 0 0 (some 1)) 0 1 (some 5)) MI ML 23 [(0, .ref (Q17_6 0))] []
  have S_8 : zst 6 (z_upR (z_upR (rfL L_X0_init_1 MR) 0 0 (some 1)) 0 1 (some 5)) MI ML := S_7.ref (by decide) (by decide)
  refine v_iconst K dX8_init_23 ?_
  refine v_istore_n K (fun q9 => [(1, .int (iI q9)), (0, .ref (Q17_6 0))]) dX8_init_24 rfl (by decide) (fun _ => rfl) (fun x9 hx9 => ?_)
  obtain rfl : x9 = 0 := hx9
  refine v_iload_n K 0 dX8_init_25 rfl rfl ?_
  refine v_iconst K dX8_init_26 ?_
  refine v_icmp_ge K 49 ⟨by decide, by decide⟩ ⟨by decide, by decide⟩ dX8_init_27 (by decide) (fun h9 => ?_) (fun h9 => ?_)
  · exact absurd h9 (by decide)
  show V X (5, 45) 6 Q17_6 (z_upR (z_upR (rfL L_X0_init_1 MR) 0 0 (some 1)) 0 1 (some 5)) MI ML 30 [(1, .int (iI 0)), (0, .ref (Q17_6 0))] []
  refine v_aload_n K 1 dX8_init_30 rfl rfl ?_
  refine v_getr K ff_X8_18 (by decide) rfl rfl (by rfl) dX8_init_31 ?_
  refine v_iload_n K 0 dX8_init_34 rfl rfl ?_
  refine v_new K fn_X8_16 S_8 rfl rfl (Nat.le_of_ble_eq_true rfl) (Nat.le_of_ble_eq_true rfl) (fun Q8 => [(1, .int (iI 0)), (0, .ref (Q8 0))]) (fun Q8 => [.int (iI 0), .ref (Q8 5)]) (fun Q9 h9 => ⟨by simp only [h9 0 (by decide)], by simp only [h9 5 (by decide)]⟩) dX8_init_35 (fun Q35_10 a35_10 => ?_)
  show V X (6, 47) 7 Q35_10 (z_upR (z_upR (rfL L_X0_init_1 MR) 0 0 (some 1)) 0 1 (some 5)) MI ML 38 [(1, .int (iI 0)), (0, .ref (Q35_10 0))] [.ref (Q35_10 6), .int (iI 0), .ref (Q35_10 5)]
  have S_11 : zst 7 (z_upR (z_upR (rfL L_X0_init_1 MR) 0 0 (some 1)) 0 1 (some 5)) MI ML := S_8.le (by decide)
  refine v_dup K dX8_init_38 rfl ?_
  refine v_callN K hN (c_X2_init_6 S_11) rfl wc_X2_init (by decide +kernel) wi_X2 (by decide +kernel) wm_X2_init rfl rfl ⟨Nat.le_of_ble_eq_true rfl, Nat.le_of_ble_eq_true rfl, Nat.le_of_ble_eq_true rfl, Nat.le_of_ble_eq_true rfl⟩ (Nat.le_of_ble_eq_true rfl) dX8_init_39 (fun v9 n9 Q39_12 MR9 MI9 ML9 h9 => ?_)
  obtain ⟨e1, e2, a39_12, e3, e4, e5, S_13⟩ := h9
  subst e1; subst e2
  have e3 := e3.symm
  subst e3
  have e4 := e4.symm
  subst e4
  have e5 := e5.symm
  subst e5
  rw [← a39_12 0 (by decide), ← a39_12 5 (by decide), ← a39_12 6 (by decide)]
  show V X (7, 57) 8 Q39_12 (rfL L_X2_init_6 (z_upR (z_upR (rfL L_X0_init_1 MR) 0 0 (some 1)) 0 1 (some 5))) MI ML 42 [(1, .int (iI 0)), (0, .ref (Q39_12 0))] [.ref (Q39_12 6), .int (iI 0), .ref (Q39_12 5)]
  refine v_aastD K 0 (by decide) rfl (by decide) rfl rfl (by decide) dX8_init_42 ?_
  show V X (7, 57) 8 Q39_12 (z_upR (rfL L_X2_init_6 (z_upR (z_upR (rfL L_X0_init_1 MR) 0 0 (some 1)) 0 1 (some 5))) 5 0 (some 6)) MI ML 43 [(1, .int (iI 0)), (0, .ref (Q39_12 0))] []
  have S_14 : zst 8 (z_upR (rfL L_X2_init_6 (z_upR (z_upR (rfL L_X0_init_1 MR) 0 0 (some 1)) 0 1 (some 5))) 5 0 (some 6)) MI ML := S_13.ref (by decide) (by decide)
  refine v_iinc K 0 (fun q9 => [(1, .int (iI q9)), (0, .ref (Q39_12 0))]) dX8_init_43 rfl (by decide) (fun _ => rfl) (fun x15 hx15 => ?_)
  obtain rfl : x15 = 1 := hx15
  refine v_goto K 25 dX8_init_46 (by decide) ?_
  refine v_iload_n K 0 dX8_init_25 rfl rfl ?_
  refine v_iconst K dX8_init_26 ?_
  refine v_icmp_ge K 49 ⟨by decide, by decide⟩ ⟨by decide, by decide⟩ dX8_init_27 (by decide) (fun h9 => ?_) (fun h9 => ?_)
  · exact absurd h9 (by decide)
  show V X (7, 57) 8 Q39_12 (z_upR (rfL L_X2_init_6 (z_upR (z_upR (rfL L_X0_init_1 MR) 0 0 (some 1)) 0 1 (some 5))) 5 0 (some 6)) MI ML 30 [(1, .int (iI 1)), (0, .ref (Q39_12 0))] []
  refine v_aload_n K 1 dX8_init_30 rfl rfl ?_
  refine v_getr K ff_X8_18 (by decide) rfl rfl (by rfl) dX8_init_31 ?_
  refine v_iload_n K 0 dX8_init_34 rfl rfl ?_
  refine v_new K fn_X8_16 S_14 rfl rfl (Nat.le_of_ble_eq_true rfl) (Nat.le_of_ble_eq_true rfl) (fun Q8 => [(1, .int (iI 1)), (0, .ref (Q8 0))]) (fun Q8 => [.int (iI 1), .ref (Q8 5)]) (fun Q9 h9 => ⟨by simp only [h9 0 (by decide)], by simp only [h9 5 (by decide)]⟩) dX8_init_35 (fun Q35_16 a35_16 => ?_)
  show V X (8, 59) 9 Q35_16 (z_upR (rfL L_X2_init_6 (z_upR (z_upR (rfL L_X0_init_1 MR) 0 0 (some 1)) 0 1 (some 5))) 5 0 (some 6)) MI ML 38 [(1, .int (iI 1)), (0, .ref (Q35_16 0))] [.ref (Q35_16 8), .int (iI 1), .ref (Q35_16 5)]
  have S_17 : zst 9 (z_upR (rfL L_X2_init_6 (z_upR (z_upR (rfL L_X0_init_1 MR) 0 0 (some 1)) 0 1 (some 5))) 5 0 (some 6)) MI ML := S_14.le (by decide)
  refine v_dup K dX8_init_38 rfl ?_
  refine v_callN K hN (c_X2_init_8 S_17) rfl wc_X2_init (by decide +kernel) wi_X2 (by decide +kernel) wm_X2_init rfl rfl ⟨Nat.le_of_ble_eq_true rfl, Nat.le_of_ble_eq_true rfl, Nat.le_of_ble_eq_true rfl, Nat.le_of_ble_eq_true rfl⟩ (Nat.le_of_ble_eq_true rfl) dX8_init_39 (fun v9 n9 Q39_18 MR9 MI9 ML9 h9 => ?_)
  obtain ⟨e1, e2, a39_18, e3, e4, e5, S_19⟩ := h9
  subst e1; subst e2
  have e3 := e3.symm
  subst e3
  have e4 := e4.symm
  subst e4
  have e5 := e5.symm
  subst e5
  rw [← a39_18 0 (by decide), ← a39_18 5 (by decide), ← a39_18 8 (by decide)]
  show V X (9, 69) 10 Q39_18 (rfL L_X2_init_8 (z_upR (rfL L_X2_init_6 (z_upR (z_upR (rfL L_X0_init_1 MR) 0 0 (some 1)) 0 1 (some 5))) 5 0 (some 6))) MI ML 42 [(1, .int (iI 1)), (0, .ref (Q39_18 0))] [.ref (Q39_18 8), .int (iI 1), .ref (Q39_18 5)]
  refine v_aastD K 1 (by decide) rfl (by decide) rfl rfl (by decide) dX8_init_42 ?_
  show V X (9, 69) 10 Q39_18 (z_upR (rfL L_X2_init_8 (z_upR (rfL L_X2_init_6 (z_upR (z_upR (rfL L_X0_init_1 MR) 0 0 (some 1)) 0 1 (some 5))) 5 0 (some 6))) 5 1 (some 8)) MI ML 43 [(1, .int (iI 1)), (0, .ref (Q39_18 0))] []
  have S_20 : zst 10 (z_upR (rfL L_X2_init_8 (z_upR (rfL L_X2_init_6 (z_upR (z_upR (rfL L_X0_init_1 MR) 0 0 (some 1)) 0 1 (some 5))) 5 0 (some 6))) 5 1 (some 8)) MI ML := S_19.ref (by decide) (by decide)
  refine v_iinc K 0 (fun q9 => [(1, .int (iI q9)), (0, .ref (Q39_18 0))]) dX8_init_43 rfl (by decide) (fun _ => rfl) (fun x21 hx21 => ?_)
  obtain rfl : x21 = 2 := hx21
  refine v_goto K 25 dX8_init_46 (by decide) ?_
  refine v_iload_n K 0 dX8_init_25 rfl rfl ?_
  refine v_iconst K dX8_init_26 ?_
  refine v_icmp_ge K 49 ⟨by decide, by decide⟩ ⟨by decide, by decide⟩ dX8_init_27 (by decide) (fun h9 => ?_) (fun h9 => ?_)
  · exact absurd h9 (by decide)
  show V X (9, 69) 10 Q39_18 (z_upR (rfL L_X2_init_8 (z_upR (rfL L_X2_init_6 (z_upR (z_upR (rfL L_X0_init_1 MR) 0 0 (some 1)) 0 1 (some 5))) 5 0 (some 6))) 5 1 (some 8)) MI ML 30 [(1, .int (iI 2)), (0, .ref (Q39_18 0))] []
  refine v_aload_n K 1 dX8_init_30 rfl rfl ?_
  refine v_getr K ff_X8_18 (by decide) rfl rfl (by rfl) dX8_init_31 ?_
  refine v_iload_n K 0 dX8_init_34 rfl rfl ?_
  refine v_new K fn_X8_16 S_20 rfl rfl (Nat.le_of_ble_eq_true rfl) (Nat.le_of_ble_eq_true rfl) (fun Q8 => [(1, .int (iI 2)), (0, .ref (Q8 0))]) (fun Q8 => [.int (iI 2), .ref (Q8 5)]) (fun Q9 h9 => ⟨by simp only [h9 0 (by decide)], by simp only [h9 5 (by decide)]⟩) dX8_init_35 (fun Q35_22 a35_22 => ?_)
  show V X (10, 71) 11 Q35_22 (z_upR (rfL L_X2_init_8 (z_upR (rfL L_X2_init_6 (z_upR (z_upR (rfL L_X0_init_1 MR) 0 0 (some 1)) 0 1 (some 5))) 5 0 (some 6))) 5 1 (some 8)) MI ML 38 [(1, .int (iI 2)), (0, .ref (Q35_22 0))] [.ref (Q35_22 10), .int (iI 2), .ref (Q35_22 5)]
  have S_23 : zst 11 (z_upR (rfL L_X2_init_8 (z_upR (rfL L_X2_init_6 (z_upR (z_upR (rfL L_X0_init_1 MR) 0 0 (some 1)) 0 1 (some 5))) 5 0 (some 6))) 5 1 (some 8)) MI ML := S_20.le (by decide)
  refine v_dup K dX8_init_38 rfl ?_
  refine v_callN K hN (c_X2_init_10 S_23) rfl wc_X2_init (by decide +kernel) wi_X2 (by decide +kernel) wm_X2_init rfl rfl ⟨Nat.le_of_ble_eq_true rfl, Nat.le_of_ble_eq_true rfl, Nat.le_of_ble_eq_true rfl, Nat.le_of_ble_eq_true rfl⟩ (Nat.le_of_ble_eq_true rfl) dX8_init_39 (fun v9 n9 Q39_24 MR9 MI9 ML9 h9 => ?_)
  obtain ⟨e1, e2, a39_24, e3, e4, e5, S_25⟩ := h9
  subst e1; subst e2
  have e3 := e3.symm
  subst e3
  have e4 := e4.symm
  subst e4
  have e5 := e5.symm
  subst e5
  rw [← a39_24 0 (by decide), ← a39_24 5 (by decide), ← a39_24 10 (by decide)]
  show V X (11, 81) 12 Q39_24 (rfL L_X2_init_10 (z_upR (rfL L_X2_init_8 (z_upR (rfL L_X2_init_6 (z_upR (z_upR (rfL L_X0_init_1 MR) 0 0 (some 1)) 0 1 (some 5))) 5 0 (some 6))) 5 1 (some 8))) MI ML 42 [(1, .int (iI 2)), (0, .ref (Q39_24 0))] [.ref (Q39_24 10), .int (iI 2), .ref (Q39_24 5)]
  refine v_aastD K 2 (by decide) rfl (by decide) rfl rfl (by decide) dX8_init_42 ?_
  show V X (11, 81) 12 Q39_24 (z_upR (rfL L_X2_init_10 (z_upR (rfL L_X2_init_8 (z_upR (rfL L_X2_init_6 (z_upR (z_upR (rfL L_X0_init_1 MR) 0 0 (some 1)) 0 1 (some 5))) 5 0 (some 6))) 5 1 (some 8))) 5 2 (some 10)) MI ML 43 [(1, .int (iI 2)), (0, .ref (Q39_24 0))] []
  have S_26 : zst 12 (z_upR (rfL L_X2_init_10 (z_upR (rfL L_X2_init_8 (z_upR (rfL L_X2_init_6 (z_upR (z_upR (rfL L_X0_init_1 MR) 0 0 (some 1)) 0 1 (some 5))) 5 0 (some 6))) 5 1 (some 8))) 5 2 (some 10)) MI ML := S_25.ref (by decide) (by decide)
  refine v_iinc K 0 (fun q9 => [(1, .int (iI q9)), (0, .ref (Q39_24 0))]) dX8_init_43 rfl (by decide) (fun _ => rfl) (fun x27 hx27 => ?_)
  obtain rfl : x27 = 3 := hx27
  refine v_goto K 25 dX8_init_46 (by decide) ?_
  refine v_iload_n K 0 dX8_init_25 rfl rfl ?_
  refine v_iconst K dX8_init_26 ?_
  refine v_icmp_ge K 49 ⟨by decide, by decide⟩ ⟨by decide, by decide⟩ dX8_init_27 (by decide) (fun h9 => ?_) (fun h9 => ?_)
  · exact absurd h9 (by decide)
  show V X (11, 81) 12 Q39_24 (z_upR (rfL L_X2_init_10 (z_upR (rfL L_X2_init_8 (z_upR (rfL L_X2_init_6 (z_upR (z_upR (rfL L_X0_init_1 MR) 0 0 (some 1)) 0 1 (some 5))) 5 0 (some 6))) 5 1 (some 8))) 5 2 (some 10)) MI ML 30 [(1, .int (iI 3)), (0, .ref (Q39_24 0))] []
  refine v_aload_n K 1 dX8_init_30 rfl rfl ?_
  refine v_getr K ff_X8_18 (by decide) rfl rfl (by rfl) dX8_init_31 ?_
  refine v_iload_n K 0 dX8_init_34 rfl rfl ?_
  refine v_new K fn_X8_16 S_26 rfl rfl (Nat.le_of_ble_eq_true rfl) (Nat.le_of_ble_eq_true rfl) (fun Q8 => [(1, .int (iI 3)), (0, .ref (Q8 0))]) (fun Q8 => [.int (iI 3), .ref (Q8 5)]) (fun Q9 h9 => ⟨by simp only [h9 0 (by decide)], by simp only [h9 5 (by decide)]⟩) dX8_init_35 (fun Q35_28 a35_28 => ?_)
  show V X (12, 83) 13 Q35_28 (z_upR (rfL L_X2_init_10 (z_upR (rfL L_X2_init_8 (z_upR (rfL L_X2_init_6 (z_upR (z_upR (rfL L_X0_init_1 MR) 0 0 (some 1)) 0 1 (some 5))) 5 0 (some 6))) 5 1 (some 8))) 5 2 (some 10)) MI ML 38 [(1, .int (iI 3)), (0, .ref (Q35_28 0))] [.ref (Q35_28 12), .int (iI 3), .ref (Q35_28 5)]
  have S_29 : zst 13 (z_upR (rfL L_X2_init_10 (z_upR (rfL L_X2_init_8 (z_upR (rfL L_X2_init_6 (z_upR (z_upR (rfL L_X0_init_1 MR) 0 0 (some 1)) 0 1 (some 5))) 5 0 (some 6))) 5 1 (some 8))) 5 2 (some 10)) MI ML := S_26.le (by decide)
  refine v_dup K dX8_init_38 rfl ?_
  refine v_callN K hN (c_X2_init_12 S_29) rfl wc_X2_init (by decide +kernel) wi_X2 (by decide +kernel) wm_X2_init rfl rfl ⟨Nat.le_of_ble_eq_true rfl, Nat.le_of_ble_eq_true rfl, Nat.le_of_ble_eq_true rfl, Nat.le_of_ble_eq_true rfl⟩ (Nat.le_of_ble_eq_true rfl) dX8_init_39 (fun v9 n9 Q39_30 MR9 MI9 ML9 h9 => ?_)
  obtain ⟨e1, e2, a39_30, e3, e4, e5, S_31⟩ := h9
  subst e1; subst e2
  have e3 := e3.symm
  subst e3
  have e4 := e4.symm
  subst e4
  have e5 := e5.symm
  subst e5
  rw [← a39_30 0 (by decide), ← a39_30 5 (by decide), ← a39_30 12 (by decide)]
  show V X (13, 93) 14 Q39_30 (rfL L_X2_init_12 (z_upR (rfL L_X2_init_10 (z_upR (rfL L_X2_init_8 (z_upR (rfL L_X2_init_6 (z_upR (z_upR (rfL L_X0_init_1 MR) 0 0 (some 1)) 0 1 (some 5))) 5 0 (some 6))) 5 1 (some 8))) 5 2 (some 10))) MI ML 42 [(1, .int (iI 3)), (0, .ref (Q39_30 0))] [.ref (Q39_30 12), .int (iI 3), .ref (Q39_30 5)]
  refine v_aastD K 3 (by decide) rfl (by decide) rfl rfl (by decide) dX8_init_42 ?_
  show V X (13, 93) 14 Q39_30 (z_upR (rfL L_X2_init_12 (z_upR (rfL L_X2_init_10 (z_upR (rfL L_X2_init_8 (z_upR (rfL L_X2_init_6 (z_upR (z_upR (rfL L_X0_init_1 MR) 0 0 (some 1)) 0 1 (some 5))) 5 0 (some 6))) 5 1 (some 8))) 5 2 (some 10))) 5 3 (some 12)) MI ML 43 [(1, .int (iI 3)), (0, .ref (Q39_30 0))] []
  have S_32 : zst 14 (z_upR (rfL L_X2_init_12 (z_upR (rfL L_X2_init_10 (z_upR (rfL L_X2_init_8 (z_upR (rfL L_X2_init_6 (z_upR (z_upR (rfL L_X0_init_1 MR) 0 0 (some 1)) 0 1 (some 5))) 5 0 (some 6))) 5 1 (some 8))) 5 2 (some 10))) 5 3 (some 12)) MI ML := S_31.ref (by decide) (by decide)
  refine v_iinc K 0 (fun q9 => [(1, .int (iI q9)), (0, .ref (Q39_30 0))]) dX8_init_43 rfl (by decide) (fun _ => rfl) (fun x33 hx33 => ?_)
  obtain rfl : x33 = 4 := hx33
  refine v_goto K 25 dX8_init_46 (by decide) ?_
  refine v_iload_n K 0 dX8_init_25 rfl rfl ?_
  refine v_iconst K dX8_init_26 ?_
  refine v_icmp_ge K 49 ⟨by decide, by decide⟩ ⟨by decide, by decide⟩ dX8_init_27 (by decide) (fun h9 => ?_) (fun h9 => ?_)
  · exact absurd h9 (by decide)
  show V X (13, 93) 14 Q39_30 (z_upR (rfL L_X2_init_12 (z_upR (rfL L_X2_init_10 (z_upR (rfL L_X2_init_8 (z_upR (rfL L_X2_init_6 (z_upR (z_upR (rfL L_X0_init_1 MR) 0 0 (some 1)) 0 1 (some 5))) 5 0 (some 6))) 5 1 (some 8))) 5 2 (some 10))) 5 3 (some 12)) MI ML 30 [(1, .int (iI 4)), (0, .ref (Q39_30 0))] []
  refine v_aload_n K 1 dX8_init_30 rfl rfl ?_
  refine v_getr K ff_X8_18 (by decide) rfl rfl (by rfl) dX8_init_31 ?_
  refine v_iload_n K 0 dX8_init_34 rfl rfl ?_
  refine v_new K fn_X8_16 S_32 rfl rfl (Nat.le_of_ble_eq_true rfl) (Nat.le_of_ble_eq_true rfl) (fun Q8 => [(1, .int (iI 4)), (0, .ref (Q8 0))]) (fun Q8 => [.int (iI 4), .ref (Q8 5)]) (fun Q9 h9 => ⟨by simp only [h9 0 (by decide)], by simp only [h9 5 (by decide)]⟩) dX8_init_35 (fun Q35_34 a35_34 => ?_)
  show V X (14, 95) 15 Q35_34 (z_upR (rfL L_X2_init_12 (z_upR (rfL L_X2_init_10 (z_upR (rfL L_X2_init_8 (z_upR (rfL L_X2_init_6 (z_upR (z_upR (rfL L_X0_init_1 MR) 0 0 (some 1)) 0 1 (some 5))) 5 0 (some 6))) 5 1 (some 8))) 5 2 (some 10))) 5 3 (some 12)) MI ML 38 [(1, .int (iI 4)), (0, .ref (Q35_34 0))] [.ref (Q35_34 14), .int (iI 4), .ref (Q35_34 5)]
  have S_35 : zst 15 (z_upR (rfL L_X2_init_12 (z_upR (rfL L_X2_init_10 (z_upR (rfL L_X2_init_8 (z_upR (rfL L_X2_init_6 (z_upR (z_upR (rfL L_X0_init_1 MR) 0 0 (some 1)) 0 1 (some 5))) 5 0 (some 6))) 5 1 (some 8))) 5 2 (some 10))) 5 3 (some 12)) MI ML := S_32.le (by decide)
  refine v_dup K dX8_init_38 rfl ?_
  refine v_callN K hN (c_X2_init_14 S_35) rfl wc_X2_init (by decide +kernel) wi_X2 (by decide +kernel) wm_X2_init rfl rfl ⟨Nat.le_of_ble_eq_true rfl, Nat.le_of_ble_eq_true rfl, Nat.le_of_ble_eq_true rfl, Nat.le_of_ble_eq_true rfl⟩ (Nat.le_of_ble_eq_true rfl) dX8_init_39 (fun v9 n9 Q39_36 MR9 MI9 ML9 h9 => ?_)
  obtain ⟨e1, e2, a39_36, e3, e4, e5, S_37⟩ := h9
  subst e1; subst e2
  have e3 := e3.symm
  subst e3
  have e4 := e4.symm
  subst e4
  have e5 := e5.symm
  subst e5
  rw [← a39_36 0 (by decide), ← a39_36 5 (by decide), ← a39_36 14 (by decide)]
  show V X (15, 105) 16 Q39_36 (rfL L_X2_init_14 (z_upR (rfL L_X2_init_12 (z_upR (rfL L_X2_init_10 (z_upR (rfL L_X2_init_8 (z_upR (rfL L_X2_init_6 (z_upR (z_upR (rfL L_X0_init_1 MR) 0 0 (some 1)) 0 1 (some 5))) 5 0 (some 6))) 5 1 (some 8))) 5 2 (some 10))) 5 3 (some 12))) MI ML 42 [(1, .int (iI 4)), (0, .ref (Q39_36 0))] [.ref (Q39_36 14), .int (iI 4), .ref (Q39_36 5)]
  refine v_aastD K 4 (by decide) rfl (by decide) rfl rfl (by decide) dX8_init_42 ?_
  show V X (15, 105) 16 Q39_36 (z_upR (rfL L_X2_init_14 (z_upR (rfL L_X2_init_12 (z_upR (rfL L_X2_init_10 (z_upR (rfL L_X2_init_8 (z_upR (rfL L_X2_init_6 (z_upR (z_upR (rfL L_X0_init_1 MR) 0 0 (some 1)) 0 1 (some 5))) 5 0 (some 6))) 5 1 (some 8))) 5 2 (some 10))) 5 3 (some 12))) 5 4 (some 14)) MI ML 43 [(1, .int (iI 4)), (0, .ref (Q39_36 0))] []
  have S_38 : zst 16 (z_upR (rfL L_X2_init_14 (z_upR (rfL L_X2_init_12 (z_upR (rfL L_X2_init_10 (z_upR (rfL L_X2_init_8 (z_upR (rfL L_X2_init_6 (z_upR (z_upR (rfL L_X0_init_1 MR) 0 0 (some 1)) 0 1 (some 5))) 5 0 (some 6))) 5 1 (some 8))) 5 2 (some 10))) 5 3 (some 12))) 5 4 (some 14)) MI ML := S_37.ref (by decide) (by decide)
  refine v_iinc K 0 (fun q9 => [(1, .int (iI q9)), (0, .ref (Q39_36 0))]) dX8_init_43 rfl (by decide) (fun _ => rfl) (fun x39 hx39 => ?_)
  obtain rfl : x39 = 5 := hx39
  refine v_goto K 25 dX8_init_46 (by decide) ?_
  refine v_iload_n K 0 dX8_init_25 rfl rfl ?_
  refine v_iconst K dX8_init_26 ?_
  refine v_icmp_ge K 49 ⟨by decide, by decide⟩ ⟨by decide, by decide⟩ dX8_init_27 (by decide) (fun h9 => ?_) (fun h9 => ?_)
  case refine_2 => exact absurd h9 (by decide)
  show V X (15, 105) 16 Q39_36 (z_upR (rfL L_X2_init_14 (z_upR (rfL L_X2_init_12 (z_upR (rfL L_X2_init_10 (z_upR (rfL L_X2_init_8 (z_upR (rfL L_X2_init_6 (z_upR (z_upR (rfL L_X0_init_1 MR) 0 0 (some 1)) 0 1 (some 5))) 5 0 (some 6))) 5 1 (some 8))) 5 2 (some 10))) 5 3 (some 12))) 5 4 (some 14)) MI ML 49 [(1, .int (iI 5)), (0, .ref (Q39_36 0))] []
  refine v_aload_n K 1 dX8_init_49 rfl rfl ?_
  refine v_new K fn_X8_23 S_38 rfl rfl (Nat.le_of_ble_eq_true rfl) (Nat.le_of_ble_eq_true rfl) (fun Q8 => [(1, .int (iI 5)), (0, .ref (Q8 0))]) (fun Q8 => [.ref (Q8 0)]) (fun Q9 h9 => ⟨by simp only [h9 0 (by decide)], by simp only [h9 0 (by decide)]⟩) dX8_init_50 (fun Q50_40 a50_40 => ?_)
  show V X (16, 109) 17 Q50_40 (z_upR (rfL L_X2_init_14 (z_upR (rfL L_X2_init_12 (z_upR (rfL L_X2_init_10 (z_upR (rfL L_X2_init_8 (z_upR (rfL L_X2_init_6 (z_upR (z_upR (rfL L_X0_init_1 MR) 0 0 (some 1)) 0 1 (some 5))) 5 0 (some 6))) 5 1 (some 8))) 5 2 (some 10))) 5 3 (some 12))) 5 4 (some 14)) MI ML 53 [(1, .int (iI 5)), (0, .ref (Q50_40 0))] [.ref (Q50_40 16), .ref (Q50_40 0)]
  have S_41 : zst 17 (z_upR (rfL L_X2_init_14 (z_upR (rfL L_X2_init_12 (z_upR (rfL L_X2_init_10 (z_upR (rfL L_X2_init_8 (z_upR (rfL L_X2_init_6 (z_upR (z_upR (rfL L_X0_init_1 MR) 0 0 (some 1)) 0 1 (some 5))) 5 0 (some 6))) 5 1 (some 8))) 5 2 (some 10))) 5 3 (some 12))) 5 4 (some 14)) MI ML := S_38.le (by decide)
  refine v_dup K dX8_init_53 rfl ?_
  refine v_aload_n K 1 dX8_init_54 rfl rfl ?_
  refine v_getr K ff_X8_10 (by decide) rfl rfl (by rfl) dX8_init_55 ?_
  refine v_callI K hN (c_X3_init_16 S_41) rfl fc_X8_25 wm_X3_init rfl rfl ⟨Nat.le_of_ble_eq_true rfl, Nat.le_of_ble_eq_true rfl, Nat.le_of_ble_eq_true rfl, Nat.le_of_ble_eq_true rfl⟩ (Nat.le_of_ble_eq_true rfl) dX8_init_58 (fun v9 n9 Q58_42 MR9 MI9 ML9 h9 => ?_)
  obtain ⟨e1, e2, a58_42, e3, e4, e5, S_43⟩ := h9
  subst e1; subst e2
  have e3 := e3.symm
  subst e3
  have e4 := e4.symm
  subst e4
  have e5 := e5.symm
  subst e5
  rw [← a58_42 0 (by decide), ← a58_42 16 (by decide)]
  show V X (18, 117) 19 Q58_42 (rfL L_X3_init_16 (z_upR (rfL L_X2_init_14 (z_upR (rfL L_X2_init_12 (z_upR (rfL L_X2_init_10 (z_upR (rfL L_X2_init_8 (z_upR (rfL L_X2_init_6 (z_upR (z_upR (rfL L_X0_init_1 MR) 0 0 (some 1)) 0 1 (some 5))) 5 0 (some 6))) 5 1 (some 8))) 5 2 (some 10))) 5 3 (some 12))) 5 4 (some 14))) MI ML 61 [(1, .int (iI 5)), (0, .ref (Q58_42 0))] [.ref (Q58_42 16), .ref (Q58_42 0)]
  refine v_putF K hI fp_X8_28 (fun _ => ⟨rfl, rfl⟩) (by decide) rfl rfl dX8_init_61 ?_
  show V X (18, 117) 19 Q58_42 (z_upR (rfL L_X3_init_16 (z_upR (rfL L_X2_init_14 (z_upR (rfL L_X2_init_12 (z_upR (rfL L_X2_init_10 (z_upR (rfL L_X2_init_8 (z_upR (rfL L_X2_init_6 (z_upR (z_upR (rfL L_X0_init_1 MR) 0 0 (some 1)) 0 1 (some 5))) 5 0 (some 6))) 5 1 (some 8))) 5 2 (some 10))) 5 3 (some 12))) 5 4 (some 14))) 0 2 (some 16)) MI ML 64 [(1, .int (iI 5)), (0, .ref (Q58_42 0))] []
  have S_44 : zst 19 (z_upR (rfL L_X3_init_16 (z_upR (rfL L_X2_init_14 (z_upR (rfL L_X2_init_12 (z_upR (rfL L_X2_init_10 (z_upR (rfL L_X2_init_8 (z_upR (rfL L_X2_init_6 (z_upR (z_upR (rfL L_X0_init_1 MR) 0 0 (some 1)) 0 1 (some 5))) 5 0 (some 6))) 5 1 (some 8))) 5 2 (some 10))) 5 3 (some 12))) 5 4 (some 14))) 0 2 (some 16)) MI ML := S_43.ref (by decide) (by decide)
  refine v_aload_n K 1 dX8_init_64 rfl rfl ?_
  refine v_new K fn_X8_32 S_44 rfl rfl (Nat.le_of_ble_eq_true rfl) (Nat.le_of_ble_eq_true rfl) (fun Q8 => [(1, .int (iI 5)), (0, .ref (Q8 0))]) (fun Q8 => [.ref (Q8 0)]) (fun Q9 h9 => ⟨by simp only [h9 0 (by decide)], by simp only [h9 0 (by decide)]⟩) dX8_init_65 (fun Q65_45 a65_45 => ?_)
  show V X (19, 120) 20 Q65_45 (z_upR (rfL L_X3_init_16 (z_upR (rfL L_X2_init_14 (z_upR (rfL L_X2_init_12 (z_upR (rfL L_X2_init_10 (z_upR (rfL L_X2_init_8 (z_upR (rfL L_X2_init_6 (z_upR (z_upR (rfL L_X0_init_1 MR) 0 0 (some 1)) 0 1 (some 5))) 5 0 (some 6))) 5 1 (some 8))) 5 2 (some 10))) 5 3 (some 12))) 5 4 (some 14))) 0 2 (some 16)) MI ML 68 [(1, .int (iI 5)), (0, .ref (Q65_45 0))] [.ref (Q65_45 19), .ref (Q65_45 0)]
  have S_46 : zst 20 (z_upR (rfL L_X3_init_16 (z_upR (rfL L_X2_init_14 (z_upR (rfL L_X2_init_12 (z_upR (rfL L_X2_init_10 (z_upR (rfL L_X2_init_8 (z_upR (rfL L_X2_init_6 (z_upR (z_upR (rfL L_X0_init_1 MR) 0 0 (some 1)) 0 1 (some 5))) 5 0 (some 6))) 5 1 (some 8))) 5 2 (some 10))) 5 3 (some 12))) 5 4 (some 14))) 0 2 (some 16)) MI ML := S_44.le (by decide)
  refine v_dup K dX8_init_68 rfl ?_
  refine v_callI K hN (c_X1_init_19 S_46) rfl fc_X8_34 wm_X1_init rfl rfl ⟨Nat.le_of_ble_eq_true rfl, Nat.le_of_ble_eq_true rfl, Nat.le_of_ble_eq_true rfl, Nat.le_of_ble_eq_true rfl⟩ (Nat.le_of_ble_eq_true rfl) dX8_init_69 (fun v9 n9 Q69_47 MR9 MI9 ML9 h9 => ?_)
  obtain ⟨e1, e2, a69_47, e3, e4, e5, S_48⟩ := h9
  subst e1; subst e2
  have e3 := e3.symm
  subst e3
  have e4 := e4.symm
  subst e4
  have e5 := e5.symm
  subst e5
  rw [← a69_47 0 (by decide), ← a69_47 19 (by decide)]
  show V X (50, 1390) 51 Q69_47 (rfL L_X1_init_19 (z_upR (rfL L_X3_init_16 (z_upR (rfL L_X2_init_14 (z_upR (rfL L_X2_init_12 (z_upR (rfL L_X2_init_10 (z_upR (rfL L_X2_init_8 (z_upR (rfL L_X2_init_6 (z_upR (z_upR (rfL L_X0_init_1 MR) 0 0 (some 1)) 0 1 (some 5))) 5 0 (some 6))) 5 1 (some 8))) 5 2 (some 10))) 5 3 (some 12))) 5 4 (some 14))) 0 2 (some 16))) MI ML 72 [(1, .int (iI 5)), (0, .ref (Q69_47 0))] [.ref (Q69_47 19), .ref (Q69_47 0)]
  refine v_putF K hI fp_X8_35 (fun _ => ⟨rfl, rfl⟩) (by decide) rfl rfl dX8_init_72 ?_
  show V X (50, 1390) 51 Q69_47 (z_upR (rfL L_X1_init_19 (z_upR (rfL L_X3_init_16 (z_upR (rfL L_X2_init_14 (z_upR (rfL L_X2_init_12 (z_upR (rfL L_X2_init_10 (z_upR (rfL L_X2_init_8 (z_upR (rfL L_X2_init_6 (z_upR (z_upR (rfL L_X0_init_1 MR) 0 0 (some 1)) 0 1 (some 5))) 5 0 (some 6))) 5 1 (some 8))) 5 2 (some 10))) 5 3 (some 12))) 5 4 (some 14))) 0 2 (some 16))) 0 3 (some 19)) MI ML 75 [(1, .int (iI 5)), (0, .ref (Q69_47 0))] []
  have S_49 : zst 51 (z_upR (rfL L_X1_init_19 (z_upR (rfL L_X3_init_16 (z_upR (rfL L_X2_init_14 (z_upR (rfL L_X2_init_12 (z_upR (rfL L_X2_init_10 (z_upR (rfL L_X2_init_8 (z_upR (rfL L_X2_init_6 (z_upR (z_upR (rfL L_X0_init_1 MR) 0 0 (some 1)) 0 1 (some 5))) 5 0 (some 6))) 5 1 (some 8))) 5 2 (some 10))) 5 3 (some 12))) 5 4 (some 14))) 0 2 (some 16))) 0 3 (some 19)) MI ML := S_48.ref (by decide) (by decide)
  refine v_aload_n K 1 dX8_init_75 rfl rfl ?_
  refine v_new K fn_X8_32 S_49 rfl rfl (Nat.le_of_ble_eq_true rfl) (Nat.le_of_ble_eq_true rfl) (fun Q8 => [(1, .int (iI 5)), (0, .ref (Q8 0))]) (fun Q8 => [.ref (Q8 0)]) (fun Q9 h9 => ⟨by simp only [h9 0 (by decide)], by simp only [h9 0 (by decide)]⟩) dX8_init_76 (fun Q76_50 a76_50 => ?_)
  show V X (51, 1393) 52 Q76_50 (z_upR (rfL L_X1_init_19 (z_upR (rfL L_X3_init_16 (z_upR (rfL L_X2_init_14 (z_upR (rfL L_X2_init_12 (z_upR (rfL L_X2_init_10 (z_upR (rfL L_X2_init_8 (z_upR (rfL L_X2_init_6 (z_upR (z_upR (rfL L_X0_init_1 MR) 0 0 (some 1)) 0 1 (some 5))) 5 0 (some 6))) 5 1 (some 8))) 5 2 (some 10))) 5 3 (some 12))) 5 4 (some 14))) 0 2 (some 16))) 0 3 (some 19)) MI ML 79 [(1, .int (iI 5)), (0, .ref (Q76_50 0))] [.ref (Q76_50 51), .ref (Q76_50 0)]
  have S_51 : zst 52 (z_upR (rfL L_X1_init_19 (z_upR (rfL L_X3_init_16 (z_upR (rfL L_X2_init_14 (z_upR (rfL L_X2_init_12 (z_upR (rfL L_X2_init_10 (z_upR (rfL L_X2_init_8 (z_upR (rfL L_X2_init_6 (z_upR (z_upR (rfL L_X0_init_1 MR) 0 0 (some 1)) 0 1 (some 5))) 5 0 (some 6))) 5 1 (some 8))) 5 2 (some 10))) 5 3 (some 12))) 5 4 (some 14))) 0 2 (some 16))) 0 3 (some 19)) MI ML := S_49.le (by decide)
  refine v_dup K dX8_init_79 rfl ?_
  refine v_callI K hN (c_X1_init_51 S_51) rfl fc_X8_34 wm_X1_init rfl rfl ⟨Nat.le_of_ble_eq_true rfl, Nat.le_of_ble_eq_true rfl, Nat.le_of_ble_eq_true rfl, Nat.le_of_ble_eq_true rfl⟩ (Nat.le_of_ble_eq_true rfl) dX8_init_80 (fun v9 n9 Q80_52 MR9 MI9 ML9 h9 => ?_)
  obtain ⟨e1, e2, a80_52, e3, e4, e5, S_53⟩ := h9
  subst e1; subst e2
  have e3 := e3.symm
  subst e3
  have e4 := e4.symm
  subst e4
  have e5 := e5.symm
  subst e5
  rw [← a80_52 0 (by decide), ← a80_52 51 (by decide)]
  show V X (82, 2663) 83 Q80_52 (rfL L_X1_init_51 (z_upR (rfL L_X1_init_19 (z_upR (rfL L_X3_init_16 (z_upR (rfL L_X2_init_14 (z_upR (rfL L_X2_init_12 (z_upR (rfL L_X2_init_10 (z_upR (rfL L_X2_init_8 (z_upR (rfL L_X2_init_6 (z_upR (z_upR (rfL L_X0_init_1 MR) 0 0 (some 1)) 0 1 (some 5))) 5 0 (some 6))) 5 1 (some 8))) 5 2 (some 10))) 5 3 (some 12))) 5 4 (some 14))) 0 2 (some 16))) 0 3 (some 19))) MI ML 83 [(1, .int (iI 5)), (0, .ref (Q80_52 0))] [.ref (Q80_52 51), .ref (Q80_52 0)]
  refine v_putF K hI fp_X8_39 (fun _ => ⟨rfl, rfl⟩) (by decide) rfl rfl dX8_init_83 ?_
  show V X (82, 2663) 83 Q80_52 (z_upR (rfL L_X1_init_51 (z_upR (rfL L_X1_init_19 (z_upR (rfL L_X3_init_16 (z_upR (rfL L_X2_init_14 (z_upR (rfL L_X2_init_12 (z_upR (rfL L_X2_init_10 (z_upR (rfL L_X2_init_8 (z_upR (rfL L_X2_init_6 (z_upR (z_upR (rfL L_X0_init_1 MR) 0 0 (some 1)) 0 1 (some 5))) 5 0 (some 6))) 5 1 (some 8))) 5 2 (some 10))) 5 3 (some 12))) 5 4 (some 14))) 0 2 (some 16))) 0 3 (some 19))) 0 4 (some 51)) MI ML 86 [(1, .int (iI 5)), (0, .ref (Q80_52 0))] []
  have S_54 : zst 83 (z_upR (rfL L_X1_init_51 (z_upR (rfL L_X1_init_19 (z_upR (rfL L_X3_init_16 (z_upR (rfL L_X2_init_14 (z_upR (rfL L_X2_init_12 (z_upR (rfL L_X2_init_10 (z_upR (rfL L_X2_init_8 (z_upR (rfL L_X2_init_6 (z_upR (z_upR (rfL L_X0_init_1 MR) 0 0 (some 1)) 0 1 (some 5))) 5 0 (some 6))) 5 1 (some 8))) 5 2 (some 10))) 5 3 (some 12))) 5 4 (some 14))) 0 2 (some 16))) 0 3 (some 19))) 0 4 (some 51)) MI ML := S_53.ref (by decide) (by decide)
  refine v_aload_n K 1 dX8_init_86 rfl rfl ?_
  refine v_new K fn_X8_42 S_54 rfl rfl (Nat.le_of_ble_eq_true rfl) (Nat.le_of_ble_eq_true rfl) (fun Q8 => [(1, .int (iI 5)), (0, .ref (Q8 0))]) (fun Q8 => [.ref (Q8 0)]) (fun Q9 h9 => ⟨by simp only [h9 0 (by decide)], by simp only [h9 0 (by decide)]⟩) dX8_init_87 (fun Q87_55 a87_55 => ?_)
  show V X (83, 2665) 84 Q87_55 (z_upR (rfL L_X1_init_51 (z_upR (rfL L_X1_init_19 (z_upR (rfL L_X3_init_16 (z_upR (rfL L_X2_init_14 (z_upR (rfL L_X2_init_12 (z_upR (rfL L_X2_init_10 (z_upR (rfL L_X2_init_8 (z_upR (rfL L_X2_init_6 (z_upR (z_upR (rfL L_X0_init_1 MR) 0 0 (some 1)) 0 1 (some 5))) 5 0 (some 6))) 5 1 (some 8))) 5 2 (some 10))) 5 3 (some 12))) 5 4 (some 14))) 0 2 (some 16))) 0 3 (some 19))) 0 4 (some 51)) MI ML 90 [(1, .int (iI 5)), (0, .ref (Q87_55 0))] [.ref (Q87_55 83), .ref (Q87_55 0)]
  have S_56 : zst 84 (z_upR (rfL L_X1_init_51 (z_upR (rfL L_X1_init_19 (z_upR (rfL L_X3_init_16 (z_upR (rfL L_X2_init_14 (z_upR (rfL L_X2_init_12 (z_upR (rfL L_X2_init_10 (z_upR (rfL L_X2_init_8 (z_upR (rfL L_X2_init_6 (z_upR (z_upR (rfL L_X0_init_1 MR) 0 0 (some 1)) 0 1 (some 5))) 5 0 (some 6))) 5 1 (some 8))) 5 2 (some 10))) 5 3 (some 12))) 5 4 (some 14))) 0 2 (some 16))) 0 3 (some 19))) 0 4 (some 51)) MI ML := S_54.le (by decide)
  refine v_dup K dX8_init_90 rfl ?_
  refine v_callN K hN (c_X6_init_83 S_56) rfl wc_X6_init (by decide +kernel) wi_X6 (by decide +kernel) wm_X6_init rfl rfl ⟨Nat.le_of_ble_eq_true rfl, Nat.le_of_ble_eq_true rfl, Nat.le_of_ble_eq_true rfl, Nat.le_of_ble_eq_true rfl⟩ (Nat.le_of_ble_eq_true rfl) dX8_init_91 (fun v9 n9 Q91_57 MR9 MI9 ML9 h9 => ?_)
  obtain ⟨e1, e2, a91_57, e3, e4, e5, S_58⟩ := h9
  subst e1; subst e2
  have e3 := e3.symm
  subst e3
  have e4 := e4.symm
  subst e4
  have e5 := e5.symm
  subst e5
  rw [← a91_57 0 (by decide), ← a91_57 83 (by decide)]
  show V X (84, 2695) 85 Q91_57 (rfL L_X6_init_83 (z_upR (rfL L_X1_init_51 (z_upR (rfL L_X1_init_19 (z_upR (rfL L_X3_init_16 (z_upR (rfL L_X2_init_14 (z_upR (rfL L_X2_init_12 (z_upR (rfL L_X2_init_10 (z_upR (rfL L_X2_init_8 (z_upR (rfL L_X2_init_6 (z_upR (z_upR (rfL L_X0_init_1 MR) 0 0 (some 1)) 0 1 (some 5))) 5 0 (some 6))) 5 1 (some 8))) 5 2 (some 10))) 5 3 (some 12))) 5 4 (some 14))) 0 2 (some 16))) 0 3 (some 19))) 0 4 (some 51))) MI ML 94 [(1, .int (iI 5)), (0, .ref (Q91_57 0))] [.ref (Q91_57 83), .ref (Q91_57 0)]
  refine v_putF K hI fp_X8_45 (fun _ => ⟨rfl, rfl⟩) (by decide) rfl rfl dX8_init_94 ?_
  show V X (84, 2695) 85 Q91_57 (z_upR (rfL L_X6_init_83 (z_upR (rfL L_X1_init_51 (z_upR (rfL L_X1_init_19 (z_upR (rfL L_X3_init_16 (z_upR (rfL L_X2_init_14 (z_upR (rfL L_X2_init_12 (z_upR (rfL L_X2_init_10 (z_upR (rfL L_X2_init_8 (z_upR (rfL L_X2_init_6 (z_upR (z_upR (rfL L_X0_init_1 MR) 0 0 (some 1)) 0 1 (some 5))) 5 0 (some 6))) 5 1 (some 8))) 5 2 (some 10))) 5 3 (some 12))) 5 4 (some 14))) 0 2 (some 16))) 0 3 (some 19))) 0 4 (some 51))) 0 5 (some 83)) MI ML 97 [(1, .int (iI 5)), (0, .ref (Q91_57 0))] []
  have S_59 : zst 85 (z_upR (rfL L_X6_init_83 (z_upR (rfL L_X1_init_51 (z_upR (rfL L_X1_init_19 (z_upR (rfL L_X3_init_16 (z_upR (rfL L_X2_init_14 (z_upR (rfL L_X2_init_12 (z_upR (rfL L_X2_init_10 (z_upR (rfL L_X2_init_8 (z_upR (rfL L_X2_init_6 (z_upR (z_upR (rfL L_X0_init_1 MR) 0 0 (some 1)) 0 1 (some 5))) 5 0 (some 6))) 5 1 (some 8))) 5 2 (some 10))) 5 3 (some 12))) 5 4 (some 14))) 0 2 (some 16))) 0 3 (some 19))) 0 4 (some 51))) 0 5 (some 83)) MI ML := S_58.ref (by decide) (by decide)
  refine v_aload_n K 1 dX8_init_97 rfl rfl ?_
  refine v_new K fn_X8_49 S_59 rfl rfl (Nat.le_of_ble_eq_true rfl) (Nat.le_of_ble_eq_true rfl) (fun Q8 => [(1, .int (iI 5)), (0, .ref (Q8 0))]) (fun Q8 => [.ref (Q8 0)]) (fun Q9 h9 => ⟨by simp only [h9 0 (by decide)], by simp only [h9 0 (by decide)]⟩) dX8_init_98 (fun Q98_60 a98_60 => ?_)
  show V X (85, 2701) 86 Q98_60 (z_upR (rfL L_X6_init_83 (z_upR (rfL L_X1_init_51 (z_upR (rfL L_X1_init_19 (z_upR (rfL L_X3_init_16 (z_upR (rfL L_X2_init_14 (z_upR (rfL L_X2_init_12 (z_upR (rfL L_X2_init_10 (z_upR (rfL L_X2_init_8 (z_upR (rfL L_X2_init_6 (z_upR (z_upR (rfL L_X0_init_1 MR) 0 0 (some 1)) 0 1 (some 5))) 5 0 (some 6))) 5 1 (some 8))) 5 2 (some 10))) 5 3 (some 12))) 5 4 (some 14))) 0 2 (some 16))) 0 3 (some 19))) 0 4 (some 51))) 0 5 (some 83)) MI ML 101 [(1, .int (iI 5)), (0, .ref (Q98_60 0))] [.ref (Q98_60 85), .ref (Q98_60 0)]
  have S_61 : zst 86 (z_upR (rfL L_X6_init_83 (z_upR (rfL L_X1_init_51 (z_upR (rfL L_X1_init_19 (z_upR (rfL L_X3_init_16 (z_upR (rfL L_X2_init_14 (z_upR (rfL L_X2_init_12 (z_upR (rfL L_X2_init_10 (z_upR (rfL L_X2_init_8 (z_upR (rfL L_X2_init_6 (z_upR (z_upR (rfL L_X0_init_1 MR) 0 0 (some 1)) 0 1 (some 5))) 5 0 (some 6))) 5 1 (some 8))) 5 2 (some 10))) 5 3 (some 12))) 5 4 (some 14))) 0 2 (some 16))) 0 3 (some 19))) 0 4 (some 51))) 0 5 (some 83)) MI ML := S_59.le (by decide)
  refine v_dup K dX8_init_101 rfl ?_
  refine v_callN K hN (c_X5_init_85 S_61) rfl wc_X5_init (by decide +kernel) wi_X5 (by decide +kernel) wm_X5_init rfl rfl ⟨Nat.le_of_ble_eq_true rfl, Nat.le_of_ble_eq_true rfl, Nat.le_of_ble_eq_true rfl, Nat.le_of_ble_eq_true rfl⟩ (Nat.le_of_ble_eq_true rfl) dX8_init_102 (fun v9 n9 Q102_62 MR9 MI9 ML9 h9 => ?_)
  obtain ⟨e1, e2, a102_62, e3, e4, e5, S_63⟩ := h9
  subst e1; subst e2
  have e3 := e3.symm
  subst e3
  have e4 := e4.symm
  subst e4
  have e5 := e5.symm
  subst e5
  rw [← a102_62 0 (by decide), ← a102_62 85 (by decide)]
  show V X (88, 2734) 89 Q102_62 (rfL L_X5_init_85 (z_upR (rfL L_X6_init_83 (z_upR (rfL L_X1_init_51 (z_upR (rfL L_X1_init_19 (z_upR (rfL L_X3_init_16 (z_upR (rfL L_X2_init_14 (z_upR (rfL L_X2_init_12 (z_upR (rfL L_X2_init_10 (z_upR (rfL L_X2_init_8 (z_upR (rfL L_X2_init_6 (z_upR (z_upR (rfL L_X0_init_1 MR) 0 0 (some 1)) 0 1 (some 5))) 5 0 (some 6))) 5 1 (some 8))) 5 2 (some 10))) 5 3 (some 12))) 5 4 (some 14))) 0 2 (some 16))) 0 3 (some 19))) 0 4 (some 51))) 0 5 (some 83))) MI ML 105 [(1, .int (iI 5)), (0, .ref (Q102_62 0))] [.ref (Q102_62 85), .ref (Q102_62 0)]
  refine v_putF K hI fp_X8_52 (fun _ => ⟨rfl, rfl⟩) (by decide) rfl rfl dX8_init_105 ?_
  show V X (88, 2734) 89 Q102_62 (z_upR (rfL L_X5_init_85 (z_upR (rfL L_X6_init_83 (z_upR (rfL L_X1_init_51 (z_upR (rfL L_X1_init_19 (z_upR (rfL L_X3_init_16 (z_upR (rfL L_X2_init_14 (z_upR (rfL L_X2_init_12 (z_upR (rfL L_X2_init_10 (z_upR (rfL L_X2_init_8 (z_upR (rfL L_X2_init_6 (z_upR (z_upR (rfL L_X0_init_1 MR) 0 0 (some 1)) 0 1 (some 5))) 5 0 (some 6))) 5 1 (some 8))) 5 2 (some 10))) 5 3 (some 12))) 5 4 (some 14))) 0 2 (some 16))) 0 3 (some 19))) 0 4 (some 51))) 0 5 (some 83))) 0 6 (some 85)) MI ML 108 [(1, .int (iI 5)), (0, .ref (Q102_62 0))] []
  have S_64 : zst 89 (z_upR (rfL L_X5_init_85 (z_upR (rfL L_X6_init_83 (z_upR (rfL L_X1_init_51 (z_upR (rfL L_X1_init_19 (z_upR (rfL L_X3_init_16 (z_upR (rfL L_X2_init_14 (z_upR (rfL L_X2_init_12 (z_upR (rfL L_X2_init_10 (z_upR (rfL L_X2_init_8 (z_upR (rfL L_X2_init_6 (z_upR (z_upR (rfL L_X0_init_1 MR) 0 0 (some 1)) 0 1 (some 5))) 5 0 (some 6))) 5 1 (some 8))) 5 2 (some 10))) 5 3 (some 12))) 5 4 (some 14))) 0 2 (some 16))) 0 3 (some 19))) 0 4 (some 51))) 0 5 (some 83))) 0 6 (some 85)) MI ML := S_63.ref (by decide) (by decide)
  refine v_aload_n K 1 dX8_init_108 rfl rfl ?_
  refine v_iconst K dX8_init_109 ?_
  refine v_newi K 5 rfl (by decide) ac_int S_64 rfl rfl (Nat.le_of_ble_eq_true rfl) (Nat.le_of_ble_eq_true rfl) (fun Q8 => [(1, .int (iI 5)), (0, .ref (Q8 0))]) (fun Q8 => [.ref (Q8 0)]) (fun Q9 h9 => ⟨by simp only [h9 0 (by decide)], by simp only [h9 0 (by decide)]⟩) dX8_init_110 (fun Q110_65 a110_65 => ?_)
  show V X (89, 2739) 90 Q110_65 (z_upR (rfL L_X5_init_85 (z_upR (rfL L_X6_init_83 (z_upR (rfL L_X1_init_51 (z_upR (rfL L_X1_init_19 (z_upR (rfL L_X3_init_16 (z_upR (rfL L_X2_init_14 (z_upR (rfL L_X2_init_12 (z_upR (rfL L_X2_init_10 (z_upR (rfL L_X2_init_8 (z_upR (rfL L_X2_init_6 (z_upR (z_upR (rfL L_X0_init_1 MR) 0 0 (some 1)) 0 1 (some 5))) 5 0 (some 6))) 5 1 (some 8))) 5 2 (some 10))) 5 3 (some 12))) 5 4 (some 14))) 0 2 (some 16))) 0 3 (some 19))) 0 4 (some 51))) 0 5 (some 83))) 0 6 (some 85)) MI ML 112 [(1, .int (iI 5)), (0, .ref (Q110_65 0))] [.ref (Q110_65 89), .ref (Q110_65 0)]
  have S_66 : zst 90 (z_upR (rfL L_X5_init_85 (z_upR (rfL L_X6_init_83 (z_upR (rfL L_X1_init_51 (z_upR (rfL L_X1_init_19 (z_upR (rfL L_X3_init_16 (z_upR (rfL L_X2_init_14 (z_upR (rfL L_X2_init_12 (z_upR (rfL L_X2_init_10 (z_upR (rfL L_X2_init_8 (z_upR (rfL L_X2_init_6 (z_upR (z_upR (rfL L_X0_init_1 MR) 0 0 (some 1)) 0 1 (some 5))) 5 0 (some 6))) 5 1 (some 8))) 5 2 (some 10))) 5 3 (some 12))) 5 4 (some 14))) 0 2 (some 16))) 0 3 (some 19))) 0 4 (some 51))) 0 5 (some 83))) 0 6 (some 85)) MI ML := S_64.le (by decide)
  refine v_putF K hI fp_X8_56 (fun _ => ⟨rfl, rfl⟩) (by decide) rfl rfl dX8_init_112 ?_
  show V X (89, 2739) 90 Q110_65 (z_upR (z_upR (rfL L_X5_init_85 (z_upR (rfL L_X6_init_83 (z_upR (rfL L_X1_init_51 (z_upR (rfL L_X1_init_19 (z_upR (rfL L_X3_init_16 (z_upR (rfL L_X2_init_14 (z_upR (rfL L_X2_init_12 (z_upR (rfL L_X2_init_10 (z_upR (rfL L_X2_init_8 (z_upR (rfL L_X2_init_6 (z_upR (z_upR (rfL L_X0_init_1 MR) 0 0 (some 1)) 0 1 (some 5))) 5 0 (some 6))) 5 1 (some 8))) 5 2 (some 10))) 5 3 (some 12))) 5 4 (some 14))) 0 2 (some 16))) 0 3 (some 19))) 0 4 (some 51))) 0 5 (some 83))) 0 6 (some 85)) 0 7 (some 89)) MI ML 115 [(1, .int (iI 5)), (0, .ref (Q110_65 0))] []
  have S_67 : zst 90 (z_upR (z_upR (rfL L_X5_init_85 (z_upR (rfL L_X6_init_83 (z_upR (rfL L_X1_init_51 (z_upR (rfL L_X1_init_19 (z_upR (rfL L_X3_init_16 (z_upR (rfL L_X2_init_14 (z_upR (rfL L_X2_init_12 (z_upR (rfL L_X2_init_10 (z_upR (rfL L_X2_init_8 (z_upR (rfL L_X2_init_6 (z_upR (z_upR (rfL L_X0_init_1 MR) 0 0 (some 1)) 0 1 (some 5))) 5 0 (some 6))) 5 1 (some 8))) 5 2 (some 10))) 5 3 (some 12))) 5 4 (some 14))) 0 2 (some 16))) 0 3 (some 19))) 0 4 (some 51))) 0 5 (some 83))) 0 6 (some 85)) 0 7 (some 89)) MI ML := S_66.ref (by decide) (by decide)
  refine v_aload_n K 1 dX8_init_115 rfl rfl ?_
  refine v_bipush K dX8_init_116 (by decide) ?_
  refine v_puti K fp_X8_60 (by decide) rfl rfl dX8_init_118 ?_
  have S_68 : zst 90 (z_upR (z_upR (rfL L_X5_init_85 (z_upR (rfL L_X6_init_83 (z_upR (rfL L_X1_init_51 (z_upR (rfL L_X1_init_19 (z_upR (rfL L_X3_init_16 (z_upR (rfL L_X2_init_14 (z_upR (rfL L_X2_init_12 (z_upR (rfL L_X2_init_10 (z_upR (rfL L_X2_init_8 (z_upR (rfL L_X2_init_6 (z_upR (z_upR (rfL L_X0_init_1 MR) 0 0 (some 1)) 0 1 (some 5))) 5 0 (some 6))) 5 1 (some 8))) 5 2 (some 10))) 5 3 (some 12))) 5 4 (some 14))) 0 2 (some 16))) 0 3 (some 19))) 0 4 (some 51))) 0 5 (some 83))) 0 6 (some 85)) 0 7 (some 89)) (z_up MI 0 9 12) ML := S_67.int (by decide)
  exact v_ret K E dX8_init_121 ⟨rfl, rfl, (((((((((((((((((((((((((agr.rf _ _).tr a5_1 (by decide)).tr a9_3 (by decide)).tr a17_6 (by decide)).tr a35_10 (by decide)).tr a39_12 (by decide)).tr a35_16 (by decide)).tr a39_18 (by decide)).tr a35_22 (by decide)).tr a39_24 (by decide)).tr a35_28 (by decide)).tr a39_30 (by decide)).tr a35_34 (by decide)).tr a39_36 (by decide)).tr a50_40 (by decide)).tr a58_42 (by decide)).tr a65_45 (by decide)).tr a69_47 (by decide)).tr a76_50 (by decide)).tr a80_52 (by decide)).tr a87_55 (by decide)).tr a91_57 (by decide)).tr a98_60 (by decide)).tr a102_62 (by decide)).tr a110_65 (by decide)), rfl, rfl, rfl, S_68⟩
def L_X9_init_90 : List (Nat × Nat × Nat) := [(90, 1, 91), (90, 2, 92), (90, 3, 93), (90, 5, 94), (90, 6, 95), (90, 8, 96), (90, 9, 97), (90, 10, 98), (90, 11, 99), (90, 12, 100), (90, 13, 101), (90, 14, 102), (90, 16, 103), (90, 20, 104), (90, 21, 105), (90, 22, 106), (90, 23, 107), (90, 24, 108), (90, 25, 109)]
set_option maxRecDepth 100000 in
set_option maxHeartbeats 4000000 in
theorem c_X9_init_90 {l : Launch} {D : va_G} {Z : ZC} {Q : Nat → Nat} {MR : ZR} {MI ML : ZM} (S : zst 91 MR MI ML) : CMg l yX9_init cX9_init 1 none 1 12 19 207 D Z 91 Q MR [.ref (Q 90)] MI ML (fun v n' Q' MR' MI' ML' => v = none ∧ n' = 110 ∧ agr 91 Q Q' ∧ MR' = rfL L_X9_init_90 MR ∧ MI' = (z_up MI 90 7 12) ∧ ML' = ML ∧ zst 110 MR' MI' ML') := by
  refine CMg.of (by decide +kernel) rfl (Nat.le_of_ble_eq_true rfl) ?_
  intro X K E _ _ _ hN hI
  show V X (0, 0) 91 Q MR MI ML 0 [(0, .ref (Q 90))] []
  refine v_aload_n K 0 dX9_init_0 rfl rfl ?_
  refine v_objI K ob_X9_1 ob_m ob_c (by decide) (by decide) dX9_init_1 ?_
  refine v_aload_n K 0 dX9_init_4 rfl rfl ?_
  refine v_bipush K dX9_init_5 (by decide) ?_
  refine v_newi K 12 rfl (by decide) ac_int S rfl rfl (Nat.le_of_ble_eq_true rfl) (Nat.le_of_ble_eq_true rfl) (fun Q8 => [(0, .ref (Q8 90))]) (fun Q8 => [.ref (Q8 90)]) (fun Q9 h9 => ⟨by simp only [h9 90 (by decide)], by simp only [h9 90 (by decide)]⟩) dX9_init_7 (fun Q7_1 a7_1 => ?_)
  show V X (1, 12) 92 Q7_1 MR MI ML 9 [(0, .ref (Q7_1 90))] [.ref (Q7_1 91), .ref (Q7_1 90)]
  have S_2 : zst 92 MR MI ML := S.le (by decide)
  refine v_putF K hI fp_X9_7 (fun _ => ⟨rfl, rfl⟩) (by decide) rfl rfl dX9_init_9 ?_
  show V X (1, 12) 92 Q7_1 (z_upR MR 90 1 (some 91)) MI ML 12 [(0, .ref (Q7_1 90))] []
  have S_3 : zst 92 (z_upR MR 90 1 (some 91)) MI ML := S_2.ref (by decide) (by decide)
  refine v_aload_n K 0 dX9_init_12 rfl rfl ?_
  refine v_bipush K dX9_init_13 (by decide) ?_
  refine v_newi K 12 rfl (by decide) ac_int S_3 rfl rfl (Nat.le_of_ble_eq_true rfl) (Nat.le_of_ble_eq_true rfl) (fun Q8 => [(0, .ref (Q8 90))]) (fun Q8 => [.ref (Q8 90)]) (fun Q9 h9 => ⟨by simp only [h9 90 (by decide)], by simp only [h9 90 (by decide)]⟩) dX9_init_15 (fun Q15_4 a15_4 => ?_)
  show V X (2, 24) 93 Q15_4 (z_upR MR 90 1 (some 91)) MI ML 17 [(0, .ref (Q15_4 90))] [.ref (Q15_4 92), .ref (Q15_4 90)]
  have S_5 : zst 93 (z_upR MR 90 1 (some 91)) MI ML := S_3.le (by decide)
  refine v_putF K hI fp_X9_13 (fun _ => ⟨rfl, rfl⟩) (by decide) rfl rfl dX9_init_17 ?_
  show V X (2, 24) 93 Q15_4 (z_upR (z_upR MR 90 1 (some 91)) 90 2 (some 92)) MI ML 20 [(0, .ref (Q15_4 90))] []
  have S_6 : zst 93 (z_upR (z_upR MR 90 1 (some 91)) 90 2 (some 92)) MI ML := S_5.ref (by decide) (by decide)
  refine v_aload_n K 0 dX9_init_20 rfl rfl ?_
  refine v_bipush K dX9_init_21 (by decide) ?_
  refine v_newi K 12 rfl (by decide) ac_int S_6 rfl rfl (Nat.le_of_ble_eq_true rfl) (Nat.le_of_ble_eq_true rfl) (fun Q8 => [(0, .ref (Q8 90))]) (fun Q8 => [.ref (Q8 90)]) (fun Q9 h9 => ⟨by simp only [h9 90 (by decide)], by simp only [h9 90 (by decide)]⟩) dX9_init_23 (fun Q23_7 a23_7 => ?_)
  show V X (3, 36) 94 Q23_7 (z_upR (z_upR MR 90 1 (some 91)) 90 2 (some 92)) MI ML 25 [(0, .ref (Q23_7 90))] [.ref (Q23_7 93), .ref (Q23_7 90)]
  have S_8 : zst 94 (z_upR (z_upR MR 90 1 (some 91)) 90 2 (some 92)) MI ML := S_6.le (by decide)
  refine v_putF K hI fp_X9_16 (fun _ => ⟨rfl, rfl⟩) (by decide) rfl rfl dX9_init_25 ?_
  show V X (3, 36) 94 Q23_7 (z_upR (z_upR (z_upR MR 90 1 (some 91)) 90 2 (some 92)) 90 3 (some 93)) MI ML 28 [(0, .ref (Q23_7 90))] []
  have S_9 : zst 94 (z_upR (z_upR (z_upR MR 90 1 (some 91)) 90 2 (some 92)) 90 3 (some 93)) MI ML := S_8.ref (by decide) (by decide)
  refine v_aload_n K 0 dX9_init_28 rfl rfl ?_
  refine v_iconst K dX9_init_29 ?_
  refine v_newi K 5 rfl (by decide) ac_int S_9 rfl rfl (Nat.le_of_ble_eq_true rfl) (Nat.le_of_ble_eq_true rfl) (fun Q8 => [(0, .ref (Q8 90))]) (fun Q8 => [.ref (Q8 90)]) (fun Q9 h9 => ⟨by simp only [h9 90 (by decide)], by simp only [h9 90 (by decide)]⟩) dX9_init_30 (fun Q30_10 a30_10 => ?_)
  show V X (4, 41) 95 Q30_10 (z_upR (z_upR (z_upR MR 90 1 (some 91)) 90 2 (some 92)) 90 3 (some 93)) MI ML 32 [(0, .ref (Q30_10 90))] [.ref (Q30_10 94), .ref (Q30_10 90)]
  have S_11 : zst 95 (z_upR (z_upR (z_upR MR 90 1 (some 91)) 90 2 (some 92)) 90 3 (some 93)) MI ML := S_9.le (by decide)
  refine v_putF K hI fp_X9_19 (fun _ => ⟨rfl, rfl⟩) (by decide) rfl rfl dX9_init_32 ?_
  show V X (4, 41) 95 Q30_10 (z_upR (z_upR (z_upR (z_upR MR 90 1 (some 91)) 90 2 (some 92)) 90 3 (some 93)) 90 5 (some 94)) MI ML 35 [(0, .ref (Q30_10 90))] []
  have S_12 : zst 95 (z_upR (z_upR (z_upR (z_upR MR 90 1 (some 91)) 90 2 (some 92)) 90 3 (some 93)) 90 5 (some 94)) MI ML := S_11.ref (by decide) (by decide)
  refine v_aload_n K 0 dX9_init_35 rfl rfl ?_
  refine v_bipush K dX9_init_36 (by decide) ?_
  refine v_newi K 50 rfl (by decide) ac_int S_12 rfl rfl (Nat.le_of_ble_eq_true rfl) (Nat.le_of_ble_eq_true rfl) (fun Q8 => [(0, .ref (Q8 90))]) (fun Q8 => [.ref (Q8 90)]) (fun Q9 h9 => ⟨by simp only [h9 90 (by decide)], by simp only [h9 90 (by decide)]⟩) dX9_init_38 (fun Q38_13 a38_13 => ?_)
  show V X (5, 91) 96 Q38_13 (z_upR (z_upR (z_upR (z_upR MR 90 1 (some 91)) 90 2 (some 92)) 90 3 (some 93)) 90 5 (some 94)) MI ML 40 [(0, .ref (Q38_13 90))] [.ref (Q38_13 95), .ref (Q38_13 90)]
  have S_14 : zst 96 (z_upR (z_upR (z_upR (z_upR MR 90 1 (some 91)) 90 2 (some 92)) 90 3 (some 93)) 90 5 (some 94)) MI ML := S_12.le (by decide)
  refine v_putF K hI fp_X9_22 (fun _ => ⟨rfl, rfl⟩) (by decide) rfl rfl dX9_init_40 ?_
  show V X (5, 91) 96 Q38_13 (z_upR (z_upR (z_upR (z_upR (z_upR MR 90 1 (some 91)) 90 2 (some 92)) 90 3 (some 93)) 90 5 (some 94)) 90 6 (some 95)) MI ML 43 [(0, .ref (Q38_13 90))] []
  have S_15 : zst 96 (z_upR (z_upR (z_upR (z_upR (z_upR MR 90 1 (some 91)) 90 2 (some 92)) 90 3 (some 93)) 90 5 (some 94)) 90 6 (some 95)) MI ML := S_14.ref (by decide) (by decide)
  refine v_aload_n K 0 dX9_init_43 rfl rfl ?_
  refine v_bipush K dX9_init_44 (by decide) ?_
  refine v_puti K fp_X9_25 (by decide) rfl rfl dX9_init_46 ?_
  have S_16 : zst 96 (z_upR (z_upR (z_upR (z_upR (z_upR MR 90 1 (some 91)) 90 2 (some 92)) 90 3 (some 93)) 90 5 (some 94)) 90 6 (some 95)) (z_up MI 90 7 12) ML := S_15.int (by decide)
  refine v_aload_n K 0 dX9_init_49 rfl rfl ?_
  refine v_iconst K dX9_init_50 ?_
  refine v_newi K 2 rfl (by decide) ac_int S_16 rfl rfl (Nat.le_of_ble_eq_true rfl) (Nat.le_of_ble_eq_true rfl) (fun Q8 => [(0, .ref (Q8 90))]) (fun Q8 => [.ref (Q8 90)]) (fun Q9 h9 => ⟨by simp only [h9 90 (by decide)], by simp only [h9 90 (by decide)]⟩) dX9_init_51 (fun Q51_17 a51_17 => ?_)
  show V X (6, 93) 97 Q51_17 (z_upR (z_upR (z_upR (z_upR (z_upR MR 90 1 (some 91)) 90 2 (some 92)) 90 3 (some 93)) 90 5 (some 94)) 90 6 (some 95)) (z_up MI 90 7 12) ML 53 [(0, .ref (Q51_17 90))] [.ref (Q51_17 96), .ref (Q51_17 90)]
  have S_18 : zst 97 (z_upR (z_upR (z_upR (z_upR (z_upR MR 90 1 (some 91)) 90 2 (some 92)) 90 3 (some 93)) 90 5 (some 94)) 90 6 (some 95)) (z_up MI 90 7 12) ML := S_16.le (by decide)
  refine v_putF K hI fp_X9_29 (fun _ => ⟨rfl, rfl⟩) (by decide) rfl rfl dX9_init_53 ?_
  show V X (6, 93) 97 Q51_17 (z_upR (z_upR (z_upR (z_upR (z_upR (z_upR MR 90 1 (some 91)) 90 2 (some 92)) 90 3 (some 93)) 90 5 (some 94)) 90 6 (some 95)) 90 8 (some 96)) (z_up MI 90 7 12) ML 56 [(0, .ref (Q51_17 90))] []
  have S_19 : zst 97 (z_upR (z_upR (z_upR (z_upR (z_upR (z_upR MR 90 1 (some 91)) 90 2 (some 92)) 90 3 (some 93)) 90 5 (some 94)) 90 6 (some 95)) 90 8 (some 96)) (z_up MI 90 7 12) ML := S_18.ref (by decide) (by decide)
  refine v_aload_n K 0 dX9_init_56 rfl rfl ?_
  refine v_iconst K dX9_init_57 ?_
  refine v_newi K 2 rfl (by decide) ac_int S_19 rfl rfl (Nat.le_of_ble_eq_true rfl) (Nat.le_of_ble_eq_true rfl) (fun Q8 => [(0, .ref (Q8 90))]) (fun Q8 => [.ref (Q8 90)]) (fun Q9 h9 => ⟨by simp only [h9 90 (by decide)], by simp only [h9 90 (by decide)]⟩) dX9_init_58 (fun Q58_20 a58_20 => ?_)
  show V X (7, 95) 98 Q58_20 (z_upR (z_upR (z_upR (z_upR (z_upR (z_upR MR 90 1 (some 91)) 90 2 (some 92)) 90 3 (some 93)) 90 5 (some 94)) 90 6 (some 95)) 90 8 (some 96)) (z_up MI 90 7 12) ML 60 [(0, .ref (Q58_20 90))] [.ref (Q58_20 97), .ref (Q58_20 90)]
  have S_21 : zst 98 (z_upR (z_upR (z_upR (z_upR (z_upR (z_upR MR 90 1 (some 91)) 90 2 (some 92)) 90 3 (some 93)) 90 5 (some 94)) 90 6 (some 95)) 90 8 (some 96)) (z_up MI 90 7 12) ML := S_19.le (by decide)
  refine v_putF K hI fp_X9_32 (fun _ => ⟨rfl, rfl⟩) (by decide) rfl rfl dX9_init_60 ?_
  show V X (7, 95) 98 Q58_20 (z_upR (z_upR (z_upR (z_upR (z_upR (z_upR (z_upR MR 90 1 (some 91)) 90 2 (some 92)) 90 3 (some 93)) 90 5 (some 94)) 90 6 (some 95)) 90 8 (some 96)) 90 9 (some 97)) (z_up MI 90 7 12) ML 63 [(0, .ref (Q58_20 90))] []
  have S_22 : zst 98 (z_upR (z_upR (z_upR (z_upR (z_upR (z_upR (z_upR MR 90 1 (some 91)) 90 2 (some 92)) 90 3 (some 93)) 90 5 (some 94)) 90 6 (some 95)) 90 8 (some 96)) 90 9 (some 97)) (z_up MI 90 7 12) ML := S_21.ref (by decide) (by decide)
  refine v_aload_n K 0 dX9_init_63 rfl rfl ?_
  refine v_iconst K dX9_init_64 ?_
  refine v_newi K 2 rfl (by decide) ac_int S_22 rfl rfl (Nat.le_of_ble_eq_true rfl) (Nat.le_of_ble_eq_true rfl) (fun Q8 => [(0, .ref (Q8 90))]) (fun Q8 => [.ref (Q8 90)]) (fun Q9 h9 => ⟨by simp only [h9 90 (by decide)], by simp only [h9 90 (by decide)]⟩) dX9_init_65 (fun Q65_23 a65_23 => ?_)
  show V X (8, 97) 99 Q65_23 (z_upR (z_upR (z_upR (z_upR (z_upR (z_upR (z_upR MR 90 1 (some 91)) 90 2 (some 92)) 90 3 (some 93)) 90 5 (some 94)) 90 6 (some 95)) 90 8 (some 96)) 90 9 (some 97)) (z_up MI 90 7 12) ML 67 [(0, .ref (Q65_23 90))] [.ref (Q65_23 98), .ref (Q65_23 90)]
  have S_24 : zst 99 (z_upR (z_upR (z_upR (z_upR (z_upR (z_upR (z_upR MR 90 1 (some 91)) 90 2 (some 92)) 90 3 (some 93)) 90 5 (some 94)) 90 6 (some 95)) 90 8 (some 96)) 90 9 (some 97)) (z_up MI 90 7 12) ML := S_22.le (by decide)
  refine v_putF K hI fp_X9_35 (fun _ => ⟨rfl, rfl⟩) (by decide) rfl rfl dX9_init_67 ?_
  show V X (8, 97) 99 Q65_23 (z_upR (z_upR (z_upR (z_upR (z_upR (z_upR (z_upR (z_upR MR 90 1 (some 91)) 90 2 (some 92)) 90 3 (some 93)) 90 5 (some 94)) 90 6 (some 95)) 90 8 (some 96)) 90 9 (some 97)) 90 10 (some 98)) (z_up MI 90 7 12) ML 70 [(0, .ref (Q65_23 90))] []
  have S_25 : zst 99 (z_upR (z_upR (z_upR (z_upR (z_upR (z_upR (z_upR (z_upR MR 90 1 (some 91)) 90 2 (some 92)) 90 3 (some 93)) 90 5 (some 94)) 90 6 (some 95)) 90 8 (some 96)) 90 9 (some 97)) 90 10 (some 98)) (z_up MI 90 7 12) ML := S_24.ref (by decide) (by decide)
  refine v_aload_n K 0 dX9_init_70 rfl rfl ?_
  refine v_iconst K dX9_init_71 ?_
  refine v_newi K 2 rfl (by decide) ac_int S_25 rfl rfl (Nat.le_of_ble_eq_true rfl) (Nat.le_of_ble_eq_true rfl) (fun Q8 => [(0, .ref (Q8 90))]) (fun Q8 => [.ref (Q8 90)]) (fun Q9 h9 => ⟨by simp only [h9 90 (by decide)], by simp only [h9 90 (by decide)]⟩) dX9_init_72 (fun Q72_26 a72_26 => ?_)
  show V X (9, 99) 100 Q72_26 (z_upR (z_upR (z_upR (z_upR (z_upR (z_upR (z_upR (z_upR MR 90 1 (some 91)) 90 2 (some 92)) 90 3 (some 93)) 90 5 (some 94)) 90 6 (some 95)) 90 8 (some 96)) 90 9 (some 97)) 90 10 (some 98)) (z_up MI 90 7 12) ML 74 [(0, .ref (Q72_26 90))] [.ref (Q72_26 99), .ref (Q72_26 90)]
  have S_27 : zst 100 (z_upR (z_upR (z_upR (z_upR (z_upR (z_upR (z_upR (z_upR MR 90 1 (some 91)) 90 2 (some 92)) 90 3 (some 93)) 90 5 (some 94)) 90 6 (some 95)) 90 8 (some 96)) 90 9 (some 97)) 90 10 (some 98)) (z_up MI 90 7 12) ML := S_25.le (by decide)
  refine v_putF K hI fp_X9_38 (fun _ => ⟨rfl, rfl⟩) (by decide) rfl rfl dX9_init_74 ?_
  show V X (9, 99) 100 Q72_26 (z_upR (z_upR (z_upR (z_upR (z_upR (z_upR (z_upR (z_upR (z_upR MR 90 1 (some 91)) 90 2 (some 92)) 90 3 (some 93)) 90 5 (some 94)) 90 6 (some 95)) 90 8 (some 96)) 90 9 (some 97)) 90 10 (some 98)) 90 11 (some 99)) (z_up MI 90 7 12) ML 77 [(0, .ref (Q72_26 90))] []
  have S_28 : zst 100 (z_upR (z_upR (z_upR (z_upR (z_upR (z_upR (z_upR (z_upR (z_upR MR 90 1 (some 91)) 90 2 (some 92)) 90 3 (some 93)) 90 5 (some 94)) 90 6 (some 95)) 90 8 (some 96)) 90 9 (some 97)) 90 10 (some 98)) 90 11 (some 99)) (z_up MI 90 7 12) ML := S_27.ref (by decide) (by decide)
  refine v_aload_n K 0 dX9_init_77 rfl rfl ?_
  refine v_iconst K dX9_init_78 ?_
  refine v_newi K 2 rfl (by decide) ac_int S_28 rfl rfl (Nat.le_of_ble_eq_true rfl) (Nat.le_of_ble_eq_true rfl) (fun Q8 => [(0, .ref (Q8 90))]) (fun Q8 => [.ref (Q8 90)]) (fun Q9 h9 => ⟨by simp only [h9 90 (by decide)], by simp only [h9 90 (by decide)]⟩) dX9_init_79 (fun Q79_29 a79_29 => ?_)
  show V X (10, 101) 101 Q79_29 (z_upR (z_upR (z_upR (z_upR (z_upR (z_upR (z_upR (z_upR (z_upR MR 90 1 (some 91)) 90 2 (some 92)) 90 3 (some 93)) 90 5 (some 94)) 90 6 (some 95)) 90 8 (some 96)) 90 9 (some 97)) 90 10 (some 98)) 90 11 (some 99)) (z_up MI 90 7 12) ML 81 [(0, .ref (Q79_29 90))] [.ref (Q79_29 100), .ref (Q79_29 90)]
  have S_30 : zst 101 (z_upR (z_upR (z_upR (z_upR (z_upR (z_upR (z_upR (z_upR (z_upR MR 90 1 (some 91)) 90 2 (some 92)) 90 3 (some 93)) 90 5 (some 94)) 90 6 (some 95)) 90 8 (some 96)) 90 9 (some 97)) 90 10 (some 98)) 90 11 (some 99)) (z_up MI 90 7 12) ML := S_28.le (by decide)
  refine v_putF K hI fp_X9_41 (fun _ => ⟨rfl, rfl⟩) (by decide) rfl rfl dX9_init_81 ?_
  show V X (10, 101) 101 Q79_29 (z_upR (z_upR (z_upR (z_upR (z_upR (z_upR (z_upR (z_upR (z_upR (z_upR MR 90 1 (some 91)) 90 2 (some 92)) 90 3 (some 93)) 90 5 (some 94)) 90 6 (some 95)) 90 8 (some 96)) 90 9 (some 97)) 90 10 (some 98)) 90 11 (some 99)) 90 12 (some 100)) (z_up MI 90 7 12) ML 84 [(0, .ref (Q79_29 90))] []
  have S_31 : zst 101 (z_upR (z_upR (z_upR (z_upR (z_upR (z_upR (z_upR (z_upR (z_upR (z_upR MR 90 1 (some 91)) 90 2 (some 92)) 90 3 (some 93)) 90 5 (some 94)) 90 6 (some 95)) 90 8 (some 96)) 90 9 (some 97)) 90 10 (some 98)) 90 11 (some 99)) 90 12 (some 100)) (z_up MI 90 7 12) ML := S_30.ref (by decide) (by decide)
  refine v_aload_n K 0 dX9_init_84 rfl rfl ?_
  refine v_iconst K dX9_init_85 ?_
  refine v_newi K 2 rfl (by decide) ac_int S_31 rfl rfl (Nat.le_of_ble_eq_true rfl) (Nat.le_of_ble_eq_true rfl) (fun Q8 => [(0, .ref (Q8 90))]) (fun Q8 => [.ref (Q8 90)]) (fun Q9 h9 => ⟨by simp only [h9 90 (by decide)], by simp only [h9 90 (by decide)]⟩) dX9_init_86 (fun Q86_32 a86_32 => ?_)
  show V X (11, 103) 102 Q86_32 (z_upR (z_upR (z_upR (z_upR (z_upR (z_upR (z_upR (z_upR (z_upR (z_upR MR 90 1 (some 91)) 90 2 (some 92)) 90 3 (some 93)) 90 5 (some 94)) 90 6 (some 95)) 90 8 (some 96)) 90 9 (some 97)) 90 10 (some 98)) 90 11 (some 99)) 90 12 (some 100)) (z_up MI 90 7 12) ML 88 [(0, .ref (Q86_32 90))] [.ref (Q86_32 101), .ref (Q86_32 90)]
  have S_33 : zst 102 (z_upR (z_upR (z_upR (z_upR (z_upR (z_upR (z_upR (z_upR (z_upR (z_upR MR 90 1 (some 91)) 90 2 (some 92)) 90 3 (some 93)) 90 5 (some 94)) 90 6 (some 95)) 90 8 (some 96)) 90 9 (some 97)) 90 10 (some 98)) 90 11 (some 99)) 90 12 (some 100)) (z_up MI 90 7 12) ML := S_31.le (by decide)
  refine v_putF K hI fp_X9_44 (fun _ => ⟨rfl, rfl⟩) (by decide) rfl rfl dX9_init_88 ?_
  show V X (11, 103) 102 Q86_32 (z_upR (z_upR (z_upR (z_upR (z_upR (z_upR (z_upR (z_upR (z_upR (z_upR (z_upR MR 90 1 (some 91)) 90 2 (some 92)) 90 3 (some 93)) 90 5 (some 94)) 90 6 (some 95)) 90 8 (some 96)) 90 9 (some 97)) 90 10 (some 98)) 90 11 (some 99)) 90 12 (some 100)) 90 13 (some 101)) (z_up MI 90 7 12) ML 91 [(0, .ref (Q86_32 90))] []
  have S_34 : zst 102 (z_upR (z_upR (z_upR (z_upR (z_upR (z_upR (z_upR (z_upR (z_upR (z_upR (z_upR MR 90 1 (some 91)) 90 2 (some 92)) 90 3 (some 93)) 90 5 (some 94)) 90 6 (some 95)) 90 8 (some 96)) 90 9 (some 97)) 90 10 (some 98)) 90 11 (some 99)) 90 12 (some 100)) 90 13 (some 101)) (z_up MI 90 7 12) ML := S_33.ref (by decide) (by decide)
  refine v_aload_n K 0 dX9_init_91 rfl rfl ?_
  refine v_bipush K dX9_init_92 (by decide) ?_
  refine v_newi K 24 rfl (by decide) ac_int S_34 rfl rfl (Nat.le_of_ble_eq_true rfl) (Nat.le_of_ble_eq_true rfl) (fun Q8 => [(0, .ref (Q8 90))]) (fun Q8 => [.ref (Q8 90)]) (fun Q9 h9 => ⟨by simp only [h9 90 (by decide)], by simp only [h9 90 (by decide)]⟩) dX9_init_94 (fun Q94_35 a94_35 => ?_)
  show V X (12, 127) 103 Q94_35 (z_upR (z_upR (z_upR (z_upR (z_upR (z_upR (z_upR (z_upR (z_upR (z_upR (z_upR MR 90 1 (some 91)) 90 2 (some 92)) 90 3 (some 93)) 90 5 (some 94)) 90 6 (some 95)) 90 8 (some 96)) 90 9 (some 97)) 90 10 (some 98)) 90 11 (some 99)) 90 12 (some 100)) 90 13 (some 101)) (z_up MI 90 7 12) ML 96 [(0, .ref (Q94_35 90))] [.ref (Q94_35 102), .ref (Q94_35 90)]
  have S_36 : zst 103 (z_upR (z_upR (z_upR (z_upR (z_upR (z_upR (z_upR (z_upR (z_upR (z_upR (z_upR MR 90 1 (some 91)) 90 2 (some 92)) 90 3 (some 93)) 90 5 (some 94)) 90 6 (some 95)) 90 8 (some 96)) 90 9 (some 97)) 90 10 (some 98)) 90 11 (some 99)) 90 12 (some 100)) 90 13 (some 101)) (z_up MI 90 7 12) ML := S_34.le (by decide)
  refine v_putF K hI fp_X9_47 (fun _ => ⟨rfl, rfl⟩) (by decide) rfl rfl dX9_init_96 ?_
  show V X (12, 127) 103 Q94_35 (z_upR (z_upR (z_upR (z_upR (z_upR (z_upR (z_upR (z_upR (z_upR (z_upR (z_upR (z_upR MR 90 1 (some 91)) 90 2 (some 92)) 90 3 (some 93)) 90 5 (some 94)) 90 6 (some 95)) 90 8 (some 96)) 90 9 (some 97)) 90 10 (some 98)) 90 11 (some 99)) 90 12 (some 100)) 90 13 (some 101)) 90 14 (some 102)) (z_up MI 90 7 12) ML 99 [(0, .ref (Q94_35 90))] []
  have S_37 : zst 103 (z_upR (z_upR (z_upR (z_upR (z_upR (z_upR (z_upR (z_upR (z_upR (z_upR (z_upR (z_upR MR 90 1 (some 91)) 90 2 (some 92)) 90 3 (some 93)) 90 5 (some 94)) 90 6 (some 95)) 90 8 (some 96)) 90 9 (some 97)) 90 10 (some 98)) 90 11 (some 99)) 90 12 (some 100)) 90 13 (some 101)) 90 14 (some 102)) (z_up MI 90 7 12) ML := S_36.ref (by decide) (by decide)
  refine v_aload_n K 0 dX9_init_99 rfl rfl ?_
  refine v_bipush K dX9_init_100 (by decide) ?_
  refine v_newi K 25 rfl (by decide) ac_int S_37 rfl rfl (Nat.le_of_ble_eq_true rfl) (Nat.le_of_ble_eq_true rfl) (fun Q8 => [(0, .ref (Q8 90))]) (fun Q8 => [.ref (Q8 90)]) (fun Q9 h9 => ⟨by simp only [h9 90 (by decide)], by simp only [h9 90 (by decide)]⟩) dX9_init_102 (fun Q102_38 a102_38 => ?_)
  show V X (13, 152) 104 Q102_38 (z_upR (z_upR (z_upR (z_upR (z_upR (z_upR (z_upR (z_upR (z_upR (z_upR (z_upR (z_upR MR 90 1 (some 91)) 90 2 (some 92)) 90 3 (some 93)) 90 5 (some 94)) 90 6 (some 95)) 90 8 (some 96)) 90 9 (some 97)) 90 10 (some 98)) 90 11 (some 99)) 90 12 (some 100)) 90 13 (some 101)) 90 14 (some 102)) (z_up MI 90 7 12) ML 104 [(0, .ref (Q102_38 90))] [.ref (Q102_38 103), .ref (Q102_38 90)]
  have S_39 : zst 104 (z_upR (z_upR (z_upR (z_upR (z_upR (z_upR (z_upR (z_upR (z_upR (z_upR (z_upR (z_upR MR 90 1 (some 91)) 90 2 (some 92)) 90 3 (some 93)) 90 5 (some 94)) 90 6 (some 95)) 90 8 (some 96)) 90 9 (some 97)) 90 10 (some 98)) 90 11 (some 99)) 90 12 (some 100)) 90 13 (some 101)) 90 14 (some 102)) (z_up MI 90 7 12) ML := S_37.le (by decide)
  refine v_putF K hI fp_X9_50 (fun _ => ⟨rfl, rfl⟩) (by decide) rfl rfl dX9_init_104 ?_
  show V X (13, 152) 104 Q102_38 (z_upR (z_upR (z_upR (z_upR (z_upR (z_upR (z_upR (z_upR (z_upR (z_upR (z_upR (z_upR (z_upR MR 90 1 (some 91)) 90 2 (some 92)) 90 3 (some 93)) 90 5 (some 94)) 90 6 (some 95)) 90 8 (some 96)) 90 9 (some 97)) 90 10 (some 98)) 90 11 (some 99)) 90 12 (some 100)) 90 13 (some 101)) 90 14 (some 102)) 90 16 (some 103)) (z_up MI 90 7 12) ML 107 [(0, .ref (Q102_38 90))] []
  have S_40 : zst 104 (z_upR (z_upR (z_upR (z_upR (z_upR (z_upR (z_upR (z_upR (z_upR (z_upR (z_upR (z_upR (z_upR MR 90 1 (some 91)) 90 2 (some 92)) 90 3 (some 93)) 90 5 (some 94)) 90 6 (some 95)) 90 8 (some 96)) 90 9 (some 97)) 90 10 (some 98)) 90 11 (some 99)) 90 12 (some 100)) 90 13 (some 101)) 90 14 (some 102)) 90 16 (some 103)) (z_up MI 90 7 12) ML := S_39.ref (by decide) (by decide)
  refine v_aload_n K 0 dX9_init_107 rfl rfl ?_
  refine v_bipush K dX9_init_108 (by decide) ?_
  refine v_newl K 30 rfl (by decide) ac_long S_40 rfl rfl (Nat.le_of_ble_eq_true rfl) (Nat.le_of_ble_eq_true rfl) (fun Q8 => [(0, .ref (Q8 90))]) (fun Q8 => [.ref (Q8 90)]) (fun Q9 h9 => ⟨by simp only [h9 90 (by decide)], by simp only [h9 90 (by decide)]⟩) dX9_init_110 (fun Q110_41 a110_41 => ?_)
  show V X (14, 182) 105 Q110_41 (z_upR (z_upR (z_upR (z_upR (z_upR (z_upR (z_upR (z_upR (z_upR (z_upR (z_upR (z_upR (z_upR MR 90 1 (some 91)) 90 2 (some 92)) 90 3 (some 93)) 90 5 (some 94)) 90 6 (some 95)) 90 8 (some 96)) 90 9 (some 97)) 90 10 (some 98)) 90 11 (some 99)) 90 12 (some 100)) 90 13 (some 101)) 90 14 (some 102)) 90 16 (some 103)) (z_up MI 90 7 12) ML 112 [(0, .ref (Q110_41 90))] [.ref (Q110_41 104), .ref (Q110_41 90)]
  have S_42 : zst 105 (z_upR (z_upR (z_upR (z_upR (z_upR (z_upR (z_upR (z_upR (z_upR (z_upR (z_upR (z_upR (z_upR MR 90 1 (some 91)) 90 2 (some 92)) 90 3 (some 93)) 90 5 (some 94)) 90 6 (some 95)) 90 8 (some 96)) 90 9 (some 97)) 90 10 (some 98)) 90 11 (some 99)) 90 12 (some 100)) 90 13 (some 101)) 90 14 (some 102)) 90 16 (some 103)) (z_up MI 90 7 12) ML := S_40.le (by decide)
  refine v_putF K hI fp_X9_53 (fun _ => ⟨rfl, rfl⟩) (by decide) rfl rfl dX9_init_112 ?_
  show V X (14, 182) 105 Q110_41 (z_upR (z_upR (z_upR (z_upR (z_upR (z_upR (z_upR (z_upR (z_upR (z_upR (z_upR (z_upR (z_upR (z_upR MR 90 1 (some 91)) 90 2 (some 92)) 90 3 (some 93)) 90 5 (some 94)) 90 6 (some 95)) 90 8 (some 96)) 90 9 (some 97)) 90 10 (some 98)) 90 11 (some 99)) 90 12 (some 100)) 90 13 (some 101)) 90 14 (some 102)) 90 16 (some 103)) 90 20 (some 104)) (z_up MI 90 7 12) ML 115 [(0, .ref (Q110_41 90))] []
  have S_43 : zst 105 (z_upR (z_upR (z_upR (z_upR (z_upR (z_upR (z_upR (z_upR (z_upR (z_upR (z_upR (z_upR (z_upR (z_upR MR 90 1 (some 91)) 90 2 (some 92)) 90 3 (some 93)) 90 5 (some 94)) 90 6 (some 95)) 90 8 (some 96)) 90 9 (some 97)) 90 10 (some 98)) 90 11 (some 99)) 90 12 (some 100)) 90 13 (some 101)) 90 14 (some 102)) 90 16 (some 103)) 90 20 (some 104)) (z_up MI 90 7 12) ML := S_42.ref (by decide) (by decide)
  refine v_aload_n K 0 dX9_init_115 rfl rfl ?_
  refine v_iconst K dX9_init_116 ?_
  refine v_newl K 5 rfl (by decide) ac_long S_43 rfl rfl (Nat.le_of_ble_eq_true rfl) (Nat.le_of_ble_eq_true rfl) (fun Q8 => [(0, .ref (Q8 90))]) (fun Q8 => [.ref (Q8 90)]) (fun Q9 h9 => ⟨by simp only [h9 90 (by decide)], by simp only [h9 90 (by decide)]⟩) dX9_init_117 (fun Q117_44 a117_44 => ?_)
  show V X (15, 187) 106 Q117_44 (z_upR (z_upR (z_upR (z_upR (z_upR (z_upR (z_upR (z_upR (z_upR (z_upR (z_upR (z_upR (z_upR (z_upR MR 90 1 (some 91)) 90 2 (some 92)) 90 3 (some 93)) 90 5 (some 94)) 90 6 (some 95)) 90 8 (some 96)) 90 9 (some 97)) 90 10 (some 98)) 90 11 (some 99)) 90 12 (some 100)) 90 13 (some 101)) 90 14 (some 102)) 90 16 (some 103)) 90 20 (some 104)) (z_up MI 90 7 12) ML 119 [(0, .ref (Q117_44 90))] [.ref (Q117_44 105), .ref (Q117_44 90)]
  have S_45 : zst 106 (z_upR (z_upR (z_upR (z_upR (z_upR (z_upR (z_upR (z_upR (z_upR (z_upR (z_upR (z_upR (z_upR (z_upR MR 90 1 (some 91)) 90 2 (some 92)) 90 3 (some 93)) 90 5 (some 94)) 90 6 (some 95)) 90 8 (some 96)) 90 9 (some 97)) 90 10 (some 98)) 90 11 (some 99)) 90 12 (some 100)) 90 13 (some 101)) 90 14 (some 102)) 90 16 (some 103)) 90 20 (some 104)) (z_up MI 90 7 12) ML := S_43.le (by decide)
  refine v_putF K hI fp_X9_57 (fun _ => ⟨rfl, rfl⟩) (by decide) rfl rfl dX9_init_119 ?_
  show V X (15, 187) 106 Q117_44 (z_upR (z_upR (z_upR (z_upR (z_upR (z_upR (z_upR (z_upR (z_upR (z_upR (z_upR (z_upR (z_upR (z_upR (z_upR MR 90 1 (some 91)) 90 2 (some 92)) 90 3 (some 93)) 90 5 (some 94)) 90 6 (some 95)) 90 8 (some 96)) 90 9 (some 97)) 90 10 (some 98)) 90 11 (some 99)) 90 12 (some 100)) 90 13 (some 101)) 90 14 (some 102)) 90 16 (some 103)) 90 20 (some 104)) 90 21 (some 105)) (z_up MI 90 7 12) ML 122 [(0, .ref (Q117_44 90))] []
  have S_46 : zst 106 (z_upR (z_upR (z_upR (z_upR (z_upR (z_upR (z_upR (z_upR (z_upR (z_upR (z_upR (z_upR (z_upR (z_upR (z_upR MR 90 1 (some 91)) 90 2 (some 92)) 90 3 (some 93)) 90 5 (some 94)) 90 6 (some 95)) 90 8 (some 96)) 90 9 (some 97)) 90 10 (some 98)) 90 11 (some 99)) 90 12 (some 100)) 90 13 (some 101)) 90 14 (some 102)) 90 16 (some 103)) 90 20 (some 104)) 90 21 (some 105)) (z_up MI 90 7 12) ML := S_45.ref (by decide) (by decide)
  refine v_aload_n K 0 dX9_init_122 rfl rfl ?_
  refine v_iconst K dX9_init_123 ?_
  refine v_newl K 5 rfl (by decide) ac_long S_46 rfl rfl (Nat.le_of_ble_eq_true rfl) (Nat.le_of_ble_eq_true rfl) (fun Q8 => [(0, .ref (Q8 90))]) (fun Q8 => [.ref (Q8 90)]) (fun Q9 h9 => ⟨by simp only [h9 90 (by decide)], by simp only [h9 90 (by decide)]⟩) dX9_init_124 (fun Q124_47 a124_47 => ?_)
  show V X (16, 192) 107 Q124_47 (z_upR (z_upR (z_upR (z_upR (z_upR (z_upR (z_upR (z_upR (z_upR (z_upR (z_upR (z_upR (z_upR (z_upR (z_upR MR 90 1 (some 91)) 90 2 (some 92)) 90 3 (some 93)) 90 5 (some 94)) 90 6 (some 95)) 90 8 (some 96)) 90 9 (some 97)) 90 10 (some 98)) 90 11 (some 99)) 90 12 (some 100)) 90 13 (some 101)) 90 14 (some 102)) 90 16 (some 103)) 90 20 (some 104)) 90 21 (some 105)) (z_up MI 90 7 12) ML 126 [(0, .ref (Q124_47 90))] [.ref (Q124_47 106), .ref (Q124_47 90)]
  have S_48 : zst 107 (z_upR (z_upR (z_upR (z_upR (z_upR (z_upR (z_upR (z_upR (z_upR (z_upR (z_upR (z_upR (z_upR (z_upR (z_upR MR 90 1 (some 91)) 90 2 (some 92)) 90 3 (some 93)) 90 5 (some 94)) 90 6 (some 95)) 90 8 (some 96)) 90 9 (some 97)) 90 10 (some 98)) 90 11 (some 99)) 90 12 (some 100)) 90 13 (some 101)) 90 14 (some 102)) 90 16 (some 103)) 90 20 (some 104)) 90 21 (some 105)) (z_up MI 90 7 12) ML := S_46.le (by decide)
  refine v_putF K hI fp_X9_60 (fun _ => ⟨rfl, rfl⟩) (by decide) rfl rfl dX9_init_126 ?_
  show V X (16, 192) 107 Q124_47 (z_upR (z_upR (z_upR (z_upR (z_upR (z_upR (z_upR (z_upR (z_upR (z_upR (z_upR (z_upR (z_upR (z_upR (z_upR (z_upR MR 90 1 (some 91)) 90 2 (some 92)) 90 3 (some 93)) 90 5 (some 94)) 90 6 (some 95)) 90 8 (some 96)) 90 9 (some 97)) 90 10 (some 98)) 90 11 (some 99)) 90 12 (some 100)) 90 13 (some 101)) 90 14 (some 102)) 90 16 (some 103)) 90 20 (some 104)) 90 21 (some 105)) 90 22 (some 106)) (z_up MI 90 7 12) ML 129 [(0, .ref (Q124_47 90))] []
  have S_49 : zst 107 (z_upR (z_upR (z_upR (z_upR (z_upR (z_upR (z_upR (z_upR (z_upR (z_upR (z_upR (z_upR (z_upR (z_upR (z_upR (z_upR MR 90 1 (some 91)) 90 2 (some 92)) 90 3 (some 93)) 90 5 (some 94)) 90 6 (some 95)) 90 8 (some 96)) 90 9 (some 97)) 90 10 (some 98)) 90 11 (some 99)) 90 12 (some 100)) 90 13 (some 101)) 90 14 (some 102)) 90 16 (some 103)) 90 20 (some 104)) 90 21 (some 105)) 90 22 (some 106)) (z_up MI 90 7 12) ML := S_48.ref (by decide) (by decide)
  refine v_aload_n K 0 dX9_init_129 rfl rfl ?_
  refine v_iconst K dX9_init_130 ?_
  refine v_newl K 5 rfl (by decide) ac_long S_49 rfl rfl (Nat.le_of_ble_eq_true rfl) (Nat.le_of_ble_eq_true rfl) (fun Q8 => [(0, .ref (Q8 90))]) (fun Q8 => [.ref (Q8 90)]) (fun Q9 h9 => ⟨by simp only [h9 90 (by decide)], by simp only [h9 90 (by decide)]⟩) dX9_init_131 (fun Q131_50 a131_50 => ?_)
  show V X (17, 197) 108 Q131_50 (z_upR (z_upR (z_upR (z_upR (z_upR (z_upR (z_upR (z_upR (z_upR (z_upR (z_upR (z_upR (z_upR (z_upR (z_upR (z_upR MR 90 1 (some 91)) 90 2 (some 92)) 90 3 (some 93)) 90 5 (some 94)) 90 6 (some 95)) 90 8 (some 96)) 90 9 (some 97)) 90 10 (some 98)) 90 11 (some 99)) 90 12 (some 100)) 90 13 (some 101)) 90 14 (some 102)) 90 16 (some 103)) 90 20 (some 104)) 90 21 (some 105)) 90 22 (some 106)) (z_up MI 90 7 12) ML 133 [(0, .ref (Q131_50 90))] [.ref (Q131_50 107), .ref (Q131_50 90)]
  have S_51 : zst 108 (z_upR (z_upR (z_upR (z_upR (z_upR (z_upR (z_upR (z_upR (z_upR (z_upR (z_upR (z_upR (z_upR (z_upR (z_upR (z_upR MR 90 1 (some 91)) 90 2 (some 92)) 90 3 (some 93)) 90 5 (some 94)) 90 6 (some 95)) 90 8 (some 96)) 90 9 (some 97)) 90 10 (some 98)) 90 11 (some 99)) 90 12 (some 100)) 90 13 (some 101)) 90 14 (some 102)) 90 16 (some 103)) 90 20 (some 104)) 90 21 (some 105)) 90 22 (some 106)) (z_up MI 90 7 12) ML := S_49.le (by decide)
  refine v_putF K hI fp_X9_63 (fun _ => ⟨rfl, rfl⟩) (by decide) rfl rfl dX9_init_133 ?_
  show V X (17, 197) 108 Q131_50 (z_upR (z_upR (z_upR (z_upR (z_upR (z_upR (z_upR (z_upR (z_upR (z_upR (z_upR (z_upR (z_upR (z_upR (z_upR (z_upR (z_upR MR 90 1 (some 91)) 90 2 (some 92)) 90 3 (some 93)) 90 5 (some 94)) 90 6 (some 95)) 90 8 (some 96)) 90 9 (some 97)) 90 10 (some 98)) 90 11 (some 99)) 90 12 (some 100)) 90 13 (some 101)) 90 14 (some 102)) 90 16 (some 103)) 90 20 (some 104)) 90 21 (some 105)) 90 22 (some 106)) 90 23 (some 107)) (z_up MI 90 7 12) ML 136 [(0, .ref (Q131_50 90))] []
  have S_52 : zst 108 (z_upR (z_upR (z_upR (z_upR (z_upR (z_upR (z_upR (z_upR (z_upR (z_upR (z_upR (z_upR (z_upR (z_upR (z_upR (z_upR (z_upR MR 90 1 (some 91)) 90 2 (some 92)) 90 3 (some 93)) 90 5 (some 94)) 90 6 (some 95)) 90 8 (some 96)) 90 9 (some 97)) 90 10 (some 98)) 90 11 (some 99)) 90 12 (some 100)) 90 13 (some 101)) 90 14 (some 102)) 90 16 (some 103)) 90 20 (some 104)) 90 21 (some 105)) 90 22 (some 106)) 90 23 (some 107)) (z_up MI 90 7 12) ML := S_51.ref (by decide) (by decide)
  refine v_aload_n K 0 dX9_init_136 rfl rfl ?_
  refine v_iconst K dX9_init_137 ?_
  refine v_newl K 5 rfl (by decide) ac_long S_52 rfl rfl (Nat.le_of_ble_eq_true rfl) (Nat.le_of_ble_eq_true rfl) (fun Q8 => [(0, .ref (Q8 90))]) (fun Q8 => [.ref (Q8 90)]) (fun Q9 h9 => ⟨by simp only [h9 90 (by decide)], by simp only [h9 90 (by decide)]⟩) dX9_init_138 (fun Q138_53 a138_53 => ?_)
  show V X (18, 202) 109 Q138_53 (z_upR (z_upR (z_upR (z_upR (z_upR (z_upR (z_upR (z_upR (z_upR (z_upR (z_upR (z_upR (z_upR (z_upR (z_upR (z_upR (z_upR MR 90 1 (some 91)) 90 2 (some 92)) 90 3 (some 93)) 90 5 (some 94)) 90 6 (some 95)) 90 8 (some 96)) 90 9 (some 97)) 90 10 (some 98)) 90 11 (some 99)) 90 12 (some 100)) 90 13 (some 101)) 90 14 (some 102)) 90 16 (some 103)) 90 20 (some 104)) 90 21 (some 105)) 90 22 (some 106)) 90 23 (some 107)) (z_up MI 90 7 12) ML 140 [(0, .ref (Q138_53 90))] [.ref (Q138_53 108), .ref (Q138_53 90)]
  have S_54 : zst 109 (z_upR (z_upR (z_upR (z_upR (z_upR (z_upR (z_upR (z_upR (z_upR (z_upR (z_upR (z_upR (z_upR (z_upR (z_upR (z_upR (z_upR MR 90 1 (some 91)) 90 2 (some 92)) 90 3 (some 93)) 90 5 (some 94)) 90 6 (some 95)) 90 8 (some 96)) 90 9 (some 97)) 90 10 (some 98)) 90 11 (some 99)) 90 12 (some 100)) 90 13 (some 101)) 90 14 (some 102)) 90 16 (some 103)) 90 20 (some 104)) 90 21 (some 105)) 90 22 (some 106)) 90 23 (some 107)) (z_up MI 90 7 12) ML := S_52.le (by decide)
  refine v_putF K hI fp_X9_66 (fun _ => ⟨rfl, rfl⟩) (by decide) rfl rfl dX9_init_140 ?_
  show V X (18, 202) 109 Q138_53 (z_upR (z_upR (z_upR (z_upR (z_upR (z_upR (z_upR (z_upR (z_upR (z_upR (z_upR (z_upR (z_upR (z_upR (z_upR (z_upR (z_upR (z_upR MR 90 1 (some 91)) 90 2 (some 92)) 90 3 (some 93)) 90 5 (some 94)) 90 6 (some 95)) 90 8 (some 96)) 90 9 (some 97)) 90 10 (some 98)) 90 11 (some 99)) 90 12 (some 100)) 90 13 (some 101)) 90 14 (some 102)) 90 16 (some 103)) 90 20 (some 104)) 90 21 (some 105)) 90 22 (some 106)) 90 23 (some 107)) 90 24 (some 108)) (z_up MI 90 7 12) ML 143 [(0, .ref (Q138_53 90))] []
  have S_55 : zst 109 (z_upR (z_upR (z_upR (z_upR (z_upR (z_upR (z_upR (z_upR (z_upR (z_upR (z_upR (z_upR (z_upR (z_upR (z_upR (z_upR (z_upR (z_upR MR 90 1 (some 91)) 90 2 (some 92)) 90 3 (some 93)) 90 5 (some 94)) 90 6 (some 95)) 90 8 (some 96)) 90 9 (some 97)) 90 10 (some 98)) 90 11 (some 99)) 90 12 (some 100)) 90 13 (some 101)) 90 14 (some 102)) 90 16 (some 103)) 90 20 (some 104)) 90 21 (some 105)) 90 22 (some 106)) 90 23 (some 107)) 90 24 (some 108)) (z_up MI 90 7 12) ML := S_54.ref (by decide) (by decide)
  refine v_aload_n K 0 dX9_init_143 rfl rfl ?_
  refine v_iconst K dX9_init_144 ?_
  refine v_newi K 5 rfl (by decide) ac_int S_55 rfl rfl (Nat.le_of_ble_eq_true rfl) (Nat.le_of_ble_eq_true rfl) (fun Q8 => [(0, .ref (Q8 90))]) (fun Q8 => [.ref (Q8 90)]) (fun Q9 h9 => ⟨by simp only [h9 90 (by decide)], by simp only [h9 90 (by decide)]⟩) dX9_init_145 (fun Q145_56 a145_56 => ?_)
  show V X (19, 207) 110 Q145_56 (z_upR (z_upR (z_upR (z_upR (z_upR (z_upR (z_upR (z_upR (z_upR (z_upR (z_upR (z_upR (z_upR (z_upR (z_upR (z_upR (z_upR (z_upR MR 90 1 (some 91)) 90 2 (some 92)) 90 3 (some 93)) 90 5 (some 94)) 90 6 (some 95)) 90 8 (some 96)) 90 9 (some 97)) 90 10 (some 98)) 90 11 (some 99)) 90 12 (some 100)) 90 13 (some 101)) 90 14 (some 102)) 90 16 (some 103)) 90 20 (some 104)) 90 21 (some 105)) 90 22 (some 106)) 90 23 (some 107)) 90 24 (some 108)) (z_up MI 90 7 12) ML 147 [(0, .ref (Q145_56 90))] [.ref (Q145_56 109), .ref (Q145_56 90)]
  have S_57 : zst 110 (z_upR (z_upR (z_upR (z_upR (z_upR (z_upR (z_upR (z_upR (z_upR (z_upR (z_upR (z_upR (z_upR (z_upR (z_upR (z_upR (z_upR (z_upR MR 90 1 (some 91)) 90 2 (some 92)) 90 3 (some 93)) 90 5 (some 94)) 90 6 (some 95)) 90 8 (some 96)) 90 9 (some 97)) 90 10 (some 98)) 90 11 (some 99)) 90 12 (some 100)) 90 13 (some 101)) 90 14 (some 102)) 90 16 (some 103)) 90 20 (some 104)) 90 21 (some 105)) 90 22 (some 106)) 90 23 (some 107)) 90 24 (some 108)) (z_up MI 90 7 12) ML := S_55.le (by decide)
  refine v_putF K hI fp_X9_69 (fun _ => ⟨rfl, rfl⟩) (by decide) rfl rfl dX9_init_147 ?_
  show V X (19, 207) 110 Q145_56 (z_upR (z_upR (z_upR (z_upR (z_upR (z_upR (z_upR (z_upR (z_upR (z_upR (z_upR (z_upR (z_upR (z_upR (z_upR (z_upR (z_upR (z_upR (z_upR MR 90 1 (some 91)) 90 2 (some 92)) 90 3 (some 93)) 90 5 (some 94)) 90 6 (some 95)) 90 8 (some 96)) 90 9 (some 97)) 90 10 (some 98)) 90 11 (some 99)) 90 12 (some 100)) 90 13 (some 101)) 90 14 (some 102)) 90 16 (some 103)) 90 20 (some 104)) 90 21 (some 105)) 90 22 (some 106)) 90 23 (some 107)) 90 24 (some 108)) 90 25 (some 109)) (z_up MI 90 7 12) ML 150 [(0, .ref (Q145_56 90))] []
  have S_58 : zst 110 (z_upR (z_upR (z_upR (z_upR (z_upR (z_upR (z_upR (z_upR (z_upR (z_upR (z_upR (z_upR (z_upR (z_upR (z_upR (z_upR (z_upR (z_upR (z_upR MR 90 1 (some 91)) 90 2 (some 92)) 90 3 (some 93)) 90 5 (some 94)) 90 6 (some 95)) 90 8 (some 96)) 90 9 (some 97)) 90 10 (some 98)) 90 11 (some 99)) 90 12 (some 100)) 90 13 (some 101)) 90 14 (some 102)) 90 16 (some 103)) 90 20 (some 104)) 90 21 (some 105)) 90 22 (some 106)) 90 23 (some 107)) 90 24 (some 108)) 90 25 (some 109)) (z_up MI 90 7 12) ML := S_57.ref (by decide) (by decide)
  exact v_ret K E dX9_init_150 ⟨rfl, rfl, ((((((((((((((((((((agr.rf _ _).tr a7_1 (by decide)).tr a15_4 (by decide)).tr a23_7 (by decide)).tr a30_10 (by decide)).tr a38_13 (by decide)).tr a51_17 (by decide)).tr a58_20 (by decide)).tr a65_23 (by decide)).tr a72_26 (by decide)).tr a79_29 (by decide)).tr a86_32 (by decide)).tr a94_35 (by decide)).tr a102_38 (by decide)).tr a110_41 (by decide)).tr a117_44 (by decide)).tr a124_47 (by decide)).tr a131_50 (by decide)).tr a138_53 (by decide)).tr a145_56 (by decide)), rfl, rfl, rfl, S_58⟩
