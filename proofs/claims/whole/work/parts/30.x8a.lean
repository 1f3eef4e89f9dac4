theorem zk_dk {d : Nat} (h : d < 5) : z_kd (6 + 2 * d) = 2 := (by decide +kernel : ∀ d, d < 5 → z_kd (6 + 2 * d) = 2) d h
theorem zr_dk {d : Nat} (h : d < 5) : z_rf (6 + 2 * d) 0 = some (7 + 2 * d) := (by decide +kernel : ∀ d, d < 5 → z_rf (6 + 2 * d) 0 = some (7 + 2 * d)) d h
theorem zk_dc {d : Nat} (h : d < 5) : z_kd (7 + 2 * d) = 10 := (by decide +kernel : ∀ d, d < 5 → z_kd (7 + 2 * d) = 10) d h
theorem zl_dc {d : Nat} (h : d < 5) : z_ln (7 + 2 * d) = 10 := (by decide +kernel : ∀ d, d < 5 → z_ln (7 + 2 * d) = 10) d h
/-- what the class's memory keeps -/
def cOk (M : ZM) : Prop := (0 ≤ M 1 3 ∧ M 1 3 ≤ 12) ∧ (0 ≤ M 0 8 ∧ M 0 8 ≤ 5) ∧ (5 ≤ M 0 9 ∧ M 0 9 ≤ 40) ∧ (∀ i, i < 12 → (0 ≤ M 2 i ∧ M 2 i ≤ 2) ∧ (0 ≤ M 3 i ∧ M 3 i ≤ 5) ∧ (0 ≤ M 4 i ∧ M 4 i ≤ 9)) ∧ (∀ d, d < 5 → 0 ≤ M (6 + 2 * d) 1 ∧ M (6 + 2 * d) 1 ≤ 10) ∧ (∀ d k : Nat, d < 5 → (k : Int) < M (6 + 2 * d) 1 → 0 ≤ M (7 + 2 * d) k ∧ M (7 + 2 * d) k < M 1 3)
def fgT (M : ZM) : ZM := z_up (z_up M 0 10 0) 0 11 0
set_option maxRecDepth 100000 in
set_option maxHeartbeats 4000000 in
theorem c_X8_isOutside {l : Launch} {D : va_G} {Z : ZC} {Q : Nat → Nat} {MI ML : ZM} (v lo hi : Int) (hv : rg v) (hlo : rg lo) (hhi : rg hi) : C_X8_isOutside l D Z Q [.int (iI v), .int (iI lo), .int (iI hi)] MI ML (zI fun r M L => M = MI ∧ L = ML ∧ ((r = 0 ∧ lo ≤ v ∧ v ≤ hi) ∨ (r = 1 ∧ (v < lo ∨ hi < v)))) := by
  refine CM.of (by decide +kernel) (Nat.le_of_ble_eq_true rfl) ?_
  intro X K E _ _ _ _
  show V X (0, 0) 110 Q z_rf MI ML 0 [(0, .int (iI v)), (1, .int (iI lo)), (2, .int (iI hi))] []
  refine v_iload_n K 0 dX8_isOutside_0 rfl rfl ?_
  refine v_iload_n K 1 dX8_isOutside_1 rfl rfl ?_
  refine v_icmp_lt K 10 hv hlo dX8_isOutside_2 (by decide) (fun h2 => ?_) (fun h2 => ?_)
  · refine v_iconst K dX8_isOutside_10 ?_
    refine v_goto K 15 dX8_isOutside_11 (by decide) ?_
    exact v_rz K E (Or.inr rfl) dX8_isOutside_15 ⟨rfl, rfl, by omega⟩
  · refine v_iload_n K 0 dX8_isOutside_5 rfl rfl ?_
    refine v_iload_n K 2 dX8_isOutside_6 rfl rfl ?_
    refine v_icmp_le K 14 hv hhi dX8_isOutside_7 (by decide) (fun h7 => ?_) (fun h7 => ?_)
    · refine v_iconst K dX8_isOutside_14 ?_
      exact v_rz K E (Or.inl rfl) dX8_isOutside_15 ⟨rfl, rfl, by omega⟩
    · refine v_iconst K dX8_isOutside_10 ?_
      refine v_goto K 15 dX8_isOutside_11 (by decide) ?_
      exact v_rz K E (Or.inr rfl) dX8_isOutside_15 ⟨rfl, rfl, by omega⟩
set_option maxRecDepth 100000 in
set_option maxHeartbeats 4000000 in
theorem c_X8_isNoCard {l : Launch} {D : va_G} {Z : ZC} {Q : Nat → Nat} {MI ML : ZM} (hM : cOk MI) (c : Int) (hc : rg c) : C_X8_isNoCard l D Z Q [.ref (Q 0), .int (iI c)] MI ML (zI fun r M L => M = MI ∧ L = ML ∧ ((r = 0 ∧ 0 ≤ c ∧ c < MI 1 3) ∨ (r = 1 ∧ (c < 0 ∨ MI 1 3 ≤ c)))) := by
  refine CM.of (by decide +kernel) (Nat.le_of_ble_eq_true rfl) ?_
  intro X K E _ _ _ _
  show V X (0, 0) 110 Q z_rf MI ML 0 [(0, .ref (Q 0)), (1, .int (iI c))] []
  have u0 := hM.1
  refine v_iload_n K 1 dX8_isNoCard_0 rfl rfl ?_
  refine v_iconst K dX8_isNoCard_1 ?_
  refine v_aload_n K 0 dX8_isNoCard_2 rfl rfl ?_
  refine v_getr K ff_X8_10 (by decide) rfl rfl rfl dX8_isNoCard_3 ?_
  refine v_geti K ff_X8_176 (by decide) rfl rfl dX8_isNoCard_6 ?_
  refine v_iconst K dX8_isNoCard_9 ?_
  refine v_isub K dX8_isNoCard_10 ?_
  refine v_cSi K (c_X8_isOutside _ _ _ hc rg_0 ⟨by omega, by omega⟩) rfl fc_X8_64 wt_X8_isOutside rfl (by decide) (Nat.le_of_ble_eq_true rfl) dX8_isNoCard_11 (fun r11 M11 L11 h11 => ?_)
  obtain ⟨hm11, hl11, hr11⟩ := h11
  subst M11 L11
  exact v_rz K E (by omega) dX8_isNoCard_14 ⟨rfl, rfl, by omega⟩
set_option maxRecDepth 100000 in
set_option maxHeartbeats 4000000 in
theorem c_X8_isNoDeck {l : Launch} {D : va_G} {Z : ZC} {Q : Nat → Nat} {MI ML : ZM} (hM : cOk MI) (c : Int) (hc : rg c) : C_X8_isNoDeck l D Z Q [.ref (Q 0), .int (iI c)] MI ML (zI fun r M L => M = MI ∧ L = ML ∧ ((r = 0 ∧ 0 ≤ c ∧ c < MI 0 8) ∨ (r = 1 ∧ (c < 0 ∨ MI 0 8 ≤ c)))) := by
  refine CM.of (by decide +kernel) (Nat.le_of_ble_eq_true rfl) ?_
  intro X K E _ _ _ _
  show V X (0, 0) 110 Q z_rf MI ML 0 [(0, .ref (Q 0)), (1, .int (iI c))] []
  have u4 := hM.2.1
  refine v_iload_n K 1 dX8_isNoDeck_0 rfl rfl ?_
  refine v_iconst K dX8_isNoDeck_1 ?_
  refine v_aload_n K 0 dX8_isNoDeck_2 rfl rfl ?_
  refine v_geti K ff_X8_82 (by decide) rfl rfl dX8_isNoDeck_3 ?_
  refine v_iconst K dX8_isNoDeck_6 ?_
  refine v_isub K dX8_isNoDeck_7 ?_
  refine v_cSi K (c_X8_isOutside _ _ _ hc rg_0 ⟨by omega, by omega⟩) rfl fc_X8_64 wt_X8_isOutside rfl (by decide) (Nat.le_of_ble_eq_true rfl) dX8_isNoDeck_8 (fun r8 M8 L8 h8 => ?_)
  obtain ⟨hm8, hl8, hr8⟩ := h8
  subst M8 L8
  exact v_rz K E (by omega) dX8_isNoDeck_11 ⟨rfl, rfl, by omega⟩
set_option maxRecDepth 100000 in
set_option maxHeartbeats 4000000 in
theorem c_X8_isNoPlace {l : Launch} {D : va_G} {Z : ZC} {Q : Nat → Nat} {MI ML : ZM} (hM : cOk MI) (d : Int) (hd0 : 0 ≤ d) (hd5 : d < 5) (k : Int) (hk : rg k) : C_X8_isNoPlace l D Z Q [.ref (Q 0), .int (iI d), .int (iI k)] MI ML (zI fun r M L => M = MI ∧ L = ML ∧ ((r = 0 ∧ 0 ≤ k ∧ k < MI (6 + 2 * d.toNat) 1) ∨ (r = 1 ∧ (k < 0 ∨ MI (6 + 2 * d.toNat) 1 ≤ k)))) := by
  refine CM.of (by decide +kernel) (Nat.le_of_ble_eq_true rfl) ?_
  intro X K E _ _ _ _
  show V X (0, 0) 110 Q z_rf MI ML 0 [(0, .ref (Q 0)), (1, .int (iI d)), (2, .int (iI k))] []
  have us := hM.2.2.2.2.1 d.toNat (by omega)
  refine v_iload_n K 2 dX8_isNoPlace_0 rfl rfl ?_
  refine v_iconst K dX8_isNoPlace_1 ?_
  refine v_aload_n K 0 dX8_isNoPlace_2 rfl rfl ?_
  refine v_getr K ff_X8_18 (by decide) rfl rfl rfl dX8_isNoPlace_3 ?_
  refine v_iload_n K 1 dX8_isNoPlace_6 rfl rfl ?_
  refine v_aaldD K (d.toNat) (by decide) rfl (by omega) (by show _ < 5; omega) (zr_decks (by omega)) dX8_isNoPlace_7 ?_
  refine v_geti K ff_X8_185 (by omega) (zk_dk (by omega)) rfl dX8_isNoPlace_8 ?_
  refine v_iconst K dX8_isNoPlace_11 ?_
  refine v_isub K dX8_isNoPlace_12 ?_
  refine v_cSi K (c_X8_isOutside _ _ _ hk rg_0 ⟨by omega, by omega⟩) rfl fc_X8_64 wt_X8_isOutside rfl (by decide) (Nat.le_of_ble_eq_true rfl) dX8_isNoPlace_13 (fun r13 M13 L13 h13 => ?_)
  obtain ⟨hm13, hl13, hr13⟩ := h13
  subst M13 L13
  exact v_rz K E (by omega) dX8_isNoPlace_16 ⟨rfl, rfl, by omega⟩
set_option maxRecDepth 100000 in
set_option maxHeartbeats 4000000 in
theorem c_X8_forgetTables {l : Launch} {D : va_G} {Z : ZC} {Q : Nat → Nat} {MI ML : ZM} : C_X8_forgetTables l D Z Q [.ref (Q 0)] MI ML (zV fun M L => L = ML ∧ M = fgT MI) := by
  refine CM.of (by decide +kernel) (Nat.le_of_ble_eq_true rfl) ?_
  intro X K E _ _ _ _
  show V X (0, 0) 110 Q z_rf MI ML 0 [(0, .ref (Q 0))] []
  refine v_aload_n K 0 dX8_forgetTables_0 rfl rfl ?_
  refine v_iconst K dX8_forgetTables_1 ?_
  refine v_putz K fp_X8_186 (Or.inl rfl) (by decide) rfl rfl dX8_forgetTables_2 ?_
  refine v_aload_n K 0 dX8_forgetTables_5 rfl rfl ?_
  refine v_iconst K dX8_forgetTables_6 ?_
  refine v_putz K fp_X8_190 (Or.inl rfl) (by decide) rfl rfl dX8_forgetTables_7 ?_
  exact v_rv K E dX8_forgetTables_10 ⟨rfl, rfl⟩
set_option maxRecDepth 100000 in
set_option maxHeartbeats 4000000 in
theorem c_X0_enter {l : Launch} {D : va_G} {Z : ZC} {Q : Nat → Nat} {MI ML : ZM} (s c p : Int) (nc : Nat) (hnc : MI 1 3 = nc) (hn2 : nc ≤ 12) : C_X0_enter l D Z Q [.ref (Q 1), .int (iI s), .int (iI c), .int (iI p)] MI ML (zI fun r M L => L = ML ∧ ((nc = 12 ∧ r = -4 ∧ M = MI) ∨ (nc < 12 ∧ r = nc ∧ M = z_up (z_up (z_up (z_up MI 2 nc s) 3 nc c) 4 nc p) 1 3 (nc + 1)))) := by
  refine CM.of (by decide +kernel) (Nat.le_of_ble_eq_true rfl) ?_
  intro X K E _ _ _ _
  show V X (0, 0) 110 Q z_rf MI ML 0 [(0, .ref (Q 1)), (1, .int (iI s)), (2, .int (iI c)), (3, .int (iI p))] []
  refine v_aload_n K 0 dX0_enter_0 rfl rfl ?_
  refine v_geti K ff_X0_21 (by decide) rfl rfl dX0_enter_1 ?_
  refine v_eqi ((nc : Int)) (by simp [z_up, hnc]) ?_
  refine v_bipush K dX0_enter_4 (by decide) ?_
  refine v_icmp_lt K 12 ⟨by omega, by omega⟩ ⟨by omega, by omega⟩ dX0_enter_6 (by decide) (fun h6 => ?_) (fun h6 => ?_)
  · refine v_aload_n K 0 dX0_enter_12 rfl rfl ?_
    refine v_getr K ff_X0_9 (by decide) rfl rfl rfl dX0_enter_13 ?_
    refine v_aload_n K 0 dX0_enter_16 rfl rfl ?_
    refine v_geti K ff_X0_21 (by decide) rfl rfl dX0_enter_17 ?_
    refine v_eqi ((nc : Int)) (by simp [z_up, hnc]) ?_
    refine v_iload_n K 1 dX0_enter_20 rfl rfl ?_
    refine v_iast K (nc) (by decide) rfl rfl (by show _ < 12; omega) dX0_enter_21 ?_
    refine v_aload_n K 0 dX0_enter_22 rfl rfl ?_
    refine v_getr K ff_X0_15 (by decide) rfl rfl rfl dX0_enter_23 ?_
    refine v_aload_n K 0 dX0_enter_26 rfl rfl ?_
    refine v_geti K ff_X0_21 (by decide) rfl rfl dX0_enter_27 ?_
    refine v_eqi ((nc : Int)) (by simp [z_up, hnc]) ?_
    refine v_iload_n K 2 dX0_enter_30 rfl rfl ?_
    refine v_iast K (nc) (by decide) rfl rfl (by show _ < 12; omega) dX0_enter_31 ?_
    refine v_aload_n K 0 dX0_enter_32 rfl rfl ?_
    refine v_getr K ff_X0_18 (by decide) rfl rfl rfl dX0_enter_33 ?_
    refine v_aload_n K 0 dX0_enter_36 rfl rfl ?_
    refine v_geti K ff_X0_21 (by decide) rfl rfl dX0_enter_37 ?_
    refine v_eqi ((nc : Int)) (by simp [z_up, hnc]) ?_
    refine v_iload_n K 3 dX0_enter_40 rfl rfl ?_
    refine v_iast K (nc) (by decide) rfl rfl (by show _ < 12; omega) dX0_enter_41 ?_
    refine v_aload_n K 0 dX0_enter_42 rfl rfl ?_
    refine v_dup K dX0_enter_43 rfl ?_
    refine v_geti K ff_X0_21 (by decide) rfl rfl dX0_enter_44 ?_
    refine v_eqi ((nc : Int)) (by simp [z_up, hnc]) ?_
    refine v_iconst K dX0_enter_47 ?_
    refine v_iadd K dX0_enter_48 ?_
    refine v_puti K fp_X0_21 (by decide) rfl rfl dX0_enter_49 ?_
    refine v_aload_n K 0 dX0_enter_52 rfl rfl ?_
    refine v_geti K ff_X0_21 (by decide) rfl rfl dX0_enter_53 ?_
    refine v_eqi ((nc : Int) + 1) (by simp [z_up]) ?_
    refine v_iconst K dX0_enter_56 ?_
    refine v_isub K dX0_enter_57 ?_
    exact v_ri K E dX0_enter_58 ⟨rfl, Or.inr ⟨by omega, by omega, rfl⟩⟩
  · refine v_bipush K dX0_enter_9 (by decide) ?_
    exact v_ri K E dX0_enter_11 ⟨rfl, Or.inl ⟨by omega, rfl, rfl⟩⟩
set_option maxRecDepth 100000 in
set_option maxHeartbeats 4000000 in
theorem c_X8_card {l : Launch} {D : va_G} {Z : ZC} {Q : Nat → Nat} {MI ML : ZM} (hM : cOk MI) (s c p : Int) (hs : rg s) (hc : rg c) (hp : rg p) (nc : Nat) (hnc : MI 1 3 = nc) : C_X8_card l D Z Q [.ref (Q 0), .int (iI s), .int (iI c), .int (iI p)] MI ML (zI fun r M L => L = ML ∧ ((r = -2 ∧ M = MI ∧ ¬ (0 ≤ s ∧ s ≤ 2 ∧ 0 ≤ c ∧ c ≤ 5 ∧ 0 ≤ p ∧ p ≤ 9)) ∨ ((0 ≤ s ∧ s ≤ 2 ∧ 0 ≤ c ∧ c ≤ 5 ∧ 0 ≤ p ∧ p ≤ 9) ∧ ((nc = 12 ∧ r = -4 ∧ M = MI) ∨ (nc < 12 ∧ r = nc ∧ M = z_up (z_up (z_up (z_up MI 2 nc s) 3 nc c) 4 nc p) 1 3 (nc + 1)))))) := by
  refine CM.of (by decide +kernel) (Nat.le_of_ble_eq_true rfl) ?_
  intro X K E _ _ _ _
  show V X (0, 0) 110 Q z_rf MI ML 0 [(0, .ref (Q 0)), (1, .int (iI s)), (2, .int (iI c)), (3, .int (iI p))] []
  have u0 := hM.1
  refine v_iload_n K 1 dX8_card_0 rfl rfl ?_
  refine v_iconst K dX8_card_1 ?_
  refine v_iconst K dX8_card_2 ?_
  refine v_cSi K (c_X8_isOutside _ _ _ hs rg_0 ⟨by omega, by omega⟩) rfl fc_X8_64 wt_X8_isOutside rfl (by decide) (Nat.le_of_ble_eq_true rfl) dX8_card_3 (fun r3 M3 L3 h3 => ?_)
  obtain ⟨hm3, hl3, hr3⟩ := h3
  subst M3 L3
  refine v_if_ne K 28 ⟨by omega, by omega⟩ dX8_card_6 (by decide) (fun h6 => ?_) (fun h6 => ?_)
  · refine v_bipush K dX8_card_28 (by decide) ?_
    exact v_ri K E dX8_card_30 ⟨rfl, Or.inl ⟨rfl, rfl, by omega⟩⟩
  · refine v_iload_n K 2 dX8_card_9 rfl rfl ?_
    refine v_iconst K dX8_card_10 ?_
    refine v_iconst K dX8_card_11 ?_
    refine v_cSi K (c_X8_isOutside _ _ _ hc rg_0 ⟨by omega, by omega⟩) rfl fc_X8_64 wt_X8_isOutside rfl (by decide) (Nat.le_of_ble_eq_true rfl) dX8_card_12 (fun r12 M12 L12 h12 => ?_)
    obtain ⟨hm12, hl12, hr12⟩ := h12
    subst M12 L12
    refine v_if_ne K 28 ⟨by omega, by omega⟩ dX8_card_15 (by decide) (fun h15 => ?_) (fun h15 => ?_)
    · refine v_bipush K dX8_card_28 (by decide) ?_
      exact v_ri K E dX8_card_30 ⟨rfl, Or.inl ⟨rfl, rfl, by omega⟩⟩
    · refine v_iload_n K 3 dX8_card_18 rfl rfl ?_
      refine v_iconst K dX8_card_19 ?_
      refine v_bipush K dX8_card_20 (by decide) ?_
      refine v_cSi K (c_X8_isOutside _ _ _ hp rg_0 ⟨by omega, by omega⟩) rfl fc_X8_64 wt_X8_isOutside rfl (by decide) (Nat.le_of_ble_eq_true rfl) dX8_card_22 (fun r22 M22 L22 h22 => ?_)
      obtain ⟨hm22, hl22, hr22⟩ := h22
      subst M22 L22
      refine v_if_eq K 31 ⟨by omega, by omega⟩ dX8_card_25 (by decide) (fun h25 => ?_) (fun h25 => ?_)
      · refine v_aload_n K 0 dX8_card_31 rfl rfl ?_
        refine v_getr K ff_X8_10 (by decide) rfl rfl rfl dX8_card_32 ?_
        refine v_iload_n K 1 dX8_card_35 rfl rfl ?_
        refine v_iload_n K 2 dX8_card_36 rfl rfl ?_
        refine v_iload_n K 3 dX8_card_37 rfl rfl ?_
        refine v_cVi K (c_X0_enter _ _ _ nc hnc (by omega)) rfl fc_X8_68 wm_X0_enter ws_X0_enter (by decide) 0 rfl (by decide) rfl rfl (by decide) (Nat.le_of_ble_eq_true rfl) dX8_card_38 (fun r38 M38 L38 h38 => ?_)
        obtain ⟨hl38, h38⟩ := h38
        subst L38
        exact v_ri K E dX8_card_41 ⟨rfl, Or.inr ⟨by omega, h38⟩⟩
      · refine v_bipush K dX8_card_28 (by decide) ?_
        exact v_ri K E dX8_card_30 ⟨rfl, Or.inl ⟨rfl, rfl, by omega⟩⟩
set_option maxRecDepth 100000 in
set_option maxHeartbeats 4000000 in
theorem c_X8_power {l : Launch} {D : va_G} {Z : ZC} {Q : Nat → Nat} {MI ML : ZM} (hM : cOk MI) (c v : Int) (hc : rg c) (hv : rg v) : C_X8_power l D Z Q [.ref (Q 0), .int (iI c), .int (iI v)] MI ML (zI fun r M L => L = ML ∧ ((r = -2 ∧ M = MI ∧ ¬ (0 ≤ c ∧ c < MI 1 3 ∧ 0 ≤ v ∧ v ≤ 9)) ∨ ((0 ≤ c ∧ c < MI 1 3 ∧ 0 ≤ v ∧ v ≤ 9) ∧ r = MI 4 c.toNat ∧ M = fgT (z_up MI 4 c.toNat v)))) := by
  refine CM.of (by decide +kernel) (Nat.le_of_ble_eq_true rfl) ?_
  intro X K E _ _ _ _
  show V X (0, 0) 110 Q z_rf MI ML 0 [(0, .ref (Q 0)), (1, .int (iI c)), (2, .int (iI v))] []
  have u0 := hM.1
  refine v_aload_n K 0 dX8_power_0 rfl rfl ?_
  refine v_iload_n K 1 dX8_power_1 rfl rfl ?_
  refine v_cVi K (c_X8_isNoCard hM _ hc) rfl fc_X8_72 wm_X8_isNoCard ws_X8_isNoCard (by decide) 8 rfl (by decide) rfl rfl (by decide) (Nat.le_of_ble_eq_true rfl) dX8_power_2 (fun r2 M2 L2 h2 => ?_)
  obtain ⟨hm2, hl2, hr2⟩ := h2
  subst M2 L2
  refine v_if_ne K 18 ⟨by omega, by omega⟩ dX8_power_5 (by decide) (fun h5 => ?_) (fun h5 => ?_)
  · refine v_bipush K dX8_power_18 (by decide) ?_
    exact v_ri K E dX8_power_20 ⟨rfl, Or.inl ⟨rfl, rfl, by omega⟩⟩
  · refine v_iload_n K 2 dX8_power_8 rfl rfl ?_
    refine v_iconst K dX8_power_9 ?_
    refine v_bipush K dX8_power_10 (by decide) ?_
    refine v_cSi K (c_X8_isOutside _ _ _ hv rg_0 ⟨by omega, by omega⟩) rfl fc_X8_64 wt_X8_isOutside rfl (by decide) (Nat.le_of_ble_eq_true rfl) dX8_power_12 (fun r12 M12 L12 h12 => ?_)
    obtain ⟨hm12, hl12, hr12⟩ := h12
    subst M12 L12
    refine v_if_eq K 21 ⟨by omega, by omega⟩ dX8_power_15 (by decide) (fun h15 => ?_) (fun h15 => ?_)
    · refine v_aload_n K 0 dX8_power_21 rfl rfl ?_
      refine v_getr K ff_X8_10 (by decide) rfl rfl rfl dX8_power_22 ?_
      refine v_getr K ff_X8_76 (by decide) rfl rfl rfl dX8_power_25 ?_
      refine v_iload_n K 1 dX8_power_28 rfl rfl ?_
      refine v_iald K (c.toNat) (by decide) rfl (by omega) (by show _ < 12; omega) dX8_power_29 ?_
      refine v_istore_n K (fun q9 => [(3, .int (iI q9)), (0, .ref (Q 0)), (1, .int (iI c)), (2, .int (iI v))]) dX8_power_30 rfl (by decide) (fun _ => rfl) (fun x30 hx30 => ?_)
      refine v_aload_n K 1 dX8_power_31 rfl rfl ?_
      refine v_getr K ff_X8_10 (by decide) rfl rfl rfl dX8_power_32 ?_
      refine v_getr K ff_X8_76 (by decide) rfl rfl rfl dX8_power_35 ?_
      refine v_iload_n K 2 dX8_power_38 rfl rfl ?_
      refine v_iload_n K 3 dX8_power_39 rfl rfl ?_
      refine v_iast K (c.toNat) (by decide) rfl (by omega) (by show _ < 12; omega) dX8_power_40 ?_
      refine v_aload_n K 1 dX8_power_41 rfl rfl ?_
      refine v_cVv K (c_X8_forgetTables) rfl fc_X8_79 wm_X8_forgetTables ws_X8_forgetTables (by decide) 8 rfl (by decide) rfl rfl (by decide) (Nat.le_of_ble_eq_true rfl) dX8_power_42 (fun M42 L42 h42 => ?_)
      obtain ⟨hl42, hm42⟩ := h42
      subst M42 L42
      refine v_iload_n K 0 dX8_power_45 rfl rfl ?_
      exact v_ri K E dX8_power_46 ⟨rfl, Or.inr ⟨by omega, hx30, rfl⟩⟩
    · refine v_bipush K dX8_power_18 (by decide) ?_
      exact v_ri K E dX8_power_20 ⟨rfl, Or.inl ⟨rfl, rfl, by omega⟩⟩
set_option maxRecDepth 100000 in
set_option maxHeartbeats 4000000 in
theorem c_X8_deck {l : Launch} {D : va_G} {Z : ZC} {Q : Nat → Nat} {MI ML : ZM} (hM : cOk MI) (nd : Nat) (hnd : MI 0 8 = nd) : C_X8_deck l D Z Q [.ref (Q 0)] MI ML (zI fun r M L => L = ML ∧ ((nd = 5 ∧ r = -4 ∧ M = MI) ∨ (nd < 5 ∧ r = nd ∧ M = fgT (z_up MI 0 8 (nd + 1))))) := by
  refine CM.of (by decide +kernel) (Nat.le_of_ble_eq_true rfl) ?_
  intro X K E _ _ _ _
  show V X (0, 0) 110 Q z_rf MI ML 0 [(0, .ref (Q 0))] []
  have u4 := hM.2.1
  refine v_aload_n K 0 dX8_deck_0 rfl rfl ?_
  refine v_geti K ff_X8_82 (by decide) rfl rfl dX8_deck_1 ?_
  refine v_eqi ((nd : Int)) (by simp [z_up, hnd]) ?_
  refine v_iconst K dX8_deck_4 ?_
  refine v_icmp_lt K 11 ⟨by omega, by omega⟩ ⟨by omega, by omega⟩ dX8_deck_5 (by decide) (fun h5 => ?_) (fun h5 => ?_)
  · refine v_aload_n K 0 dX8_deck_11 rfl rfl ?_
    refine v_dup K dX8_deck_12 rfl ?_
    refine v_geti K ff_X8_82 (by decide) rfl rfl dX8_deck_13 ?_
    refine v_eqi ((nd : Int)) (by simp [z_up, hnd]) ?_
    refine v_iconst K dX8_deck_16 ?_
    refine v_iadd K dX8_deck_17 ?_
    refine v_puti K fp_X8_82 (by decide) rfl rfl dX8_deck_18 ?_
    refine v_aload_n K 0 dX8_deck_21 rfl rfl ?_
    refine v_cVv K (c_X8_forgetTables) rfl fc_X8_79 wm_X8_forgetTables ws_X8_forgetTables (by decide) 8 rfl (by decide) rfl rfl (by decide) (Nat.le_of_ble_eq_true rfl) dX8_deck_22 (fun M22 L22 h22 => ?_)
    obtain ⟨hl22, hm22⟩ := h22
    subst M22 L22
    refine v_aload_n K 0 dX8_deck_25 rfl rfl ?_
    refine v_geti K ff_X8_82 (by decide) rfl rfl dX8_deck_26 ?_
    refine v_eqi ((nd : Int) + 1) (by simp [fgT, z_up]) ?_
    refine v_iconst K dX8_deck_29 ?_
    refine v_isub K dX8_deck_30 ?_
    exact v_ri K E dX8_deck_31 ⟨rfl, Or.inr ⟨by omega, by omega, rfl⟩⟩
  · refine v_bipush K dX8_deck_8 (by decide) ?_
    exact v_ri K E dX8_deck_10 ⟨rfl, Or.inl ⟨by omega, rfl, rfl⟩⟩
set_option maxRecDepth 100000 in
set_option maxHeartbeats 4000000 in
theorem c_X2_append {l : Launch} {D : va_G} {Z : ZC} {Q : Nat → Nat} {MI ML : ZM} (d : Nat) (hd : d < 5) (c : Int) (h0 : 0 ≤ MI (6 + 2 * d) 1) (h1 : MI (6 + 2 * d) 1 ≤ 10) : C_X2_append l D Z Q [.ref (Q (6 + 2 * d)), .int (iI c)] MI ML (zI fun r M L => L = ML ∧ ((MI (6 + 2 * d) 1 = 10 ∧ r = -4 ∧ M = MI) ∨ (MI (6 + 2 * d) 1 < 10 ∧ r = MI (6 + 2 * d) 1 + 1 ∧ M = z_up (z_up MI (7 + 2 * d) (MI (6 + 2 * d) 1).toNat c) (6 + 2 * d) 1 (MI (6 + 2 * d) 1 + 1)))) := by
  refine CM.of (by decide +kernel) (Nat.le_of_ble_eq_true rfl) ?_
  intro X K E _ _ _ _
  show V X (0, 0) 110 Q z_rf MI ML 0 [(0, .ref (Q (6 + 2 * d))), (1, .int (iI c))] []
  refine v_aload_n K 0 dX2_append_0 rfl rfl ?_
  refine v_geti K ff_X2_15 (by omega) (zk_dk hd) rfl dX2_append_1 ?_
  refine v_bipush K dX2_append_4 (by decide) ?_
  refine v_icmp_lt K 12 ⟨by omega, by omega⟩ ⟨by omega, by omega⟩ dX2_append_6 (by decide) (fun h6 => ?_) (fun h6 => ?_)
  · refine v_aload_n K 0 dX2_append_12 rfl rfl ?_
    refine v_getr K ff_X2_9 (by omega) (zk_dk hd) rfl (zr_dk hd) dX2_append_13 ?_
    refine v_aload_n K 0 dX2_append_16 rfl rfl ?_
    refine v_geti K ff_X2_15 (by omega) (zk_dk hd) rfl dX2_append_17 ?_
    refine v_iload_n K 1 dX2_append_20 rfl rfl ?_
    refine v_iast K ((MI (6 + 2 * d) 1).toNat) (by omega) (zk_dc hd) (by omega) (by rw [zl_dc hd]; omega) dX2_append_21 ?_
    refine v_aload_n K 0 dX2_append_22 rfl rfl ?_
    refine v_dup K dX2_append_23 rfl ?_
    refine v_geti K ff_X2_15 (by omega) (zk_dk hd) rfl dX2_append_24 ?_
    refine v_eqi (MI (6 + 2 * d) 1) (by rw [z_up_k (by omega)]) ?_
    refine v_iconst K dX2_append_27 ?_
    refine v_iadd K dX2_append_28 ?_
    refine v_puti K fp_X2_15 (by omega) (zk_dk hd) rfl dX2_append_29 ?_
    refine v_aload_n K 0 dX2_append_32 rfl rfl ?_
    refine v_geti K ff_X2_15 (by omega) (zk_dk hd) rfl dX2_append_33 ?_
    refine v_eqi (MI (6 + 2 * d) 1 + 1) (by rw [z_up_s]) ?_
    exact v_ri K E dX2_append_36 ⟨rfl, Or.inr ⟨by omega, rfl, rfl⟩⟩
  · refine v_bipush K dX2_append_9 (by decide) ?_
    exact v_ri K E dX2_append_11 ⟨rfl, Or.inl ⟨by omega, rfl, rfl⟩⟩
/-- the cards of deck d without place p: the shift done below place k -/
def takK (M : ZM) (d p k : Nat) : ZM := fun a b => if a = 7 + 2 * d ∧ p ≤ b ∧ b + 1 < k then M (7 + 2 * d) (b + 1) else M a b
theorem takK_0 (M : ZM) (d p : Nat) : takK M d p (p + 1) = M := by
  funext a b
  simp only [takK]
  rw [if_neg (by omega)]
theorem takK_s {M : ZM} {d p k : Nat} (hp : p < k) : z_up (takK M d p k) (7 + 2 * d) (k - 1) (M (7 + 2 * d) k) = takK M d p (k + 1) := by
  funext a b
  simp only [z_up, takK]
  by_cases h1 : a = 7 + 2 * d ∧ b = k - 1
  · obtain ⟨rfl, rfl⟩ := h1
    rw [if_pos ⟨rfl, rfl⟩, if_pos (by omega), show k - 1 + 1 = k by omega]
  · rw [if_neg h1]
    by_cases h2 : a = 7 + 2 * d ∧ p ≤ b ∧ b + 1 < k
    · rw [if_pos h2, if_pos (by omega)]
    · rw [if_neg h2, if_neg (by omega)]
def takM (M : ZM) (d p : Nat) : ZM := z_up (takK M d p (M (6 + 2 * d) 1).toNat) (6 + 2 * d) 1 (M (6 + 2 * d) 1 - 1)
set_option maxRecDepth 100000 in
set_option maxHeartbeats 4000000 in
theorem l_X2_takeOut {X : VX} {Q : Nat → Nat} {MI ML : ZM} (K : VK X cX2_takeOut RX2 4 (some .int) 0 0 0 0) (d : Nat) (hd : d < 5) (p : Nat) (h0 : (p : Int) < MI (6 + 2 * d) 1) (h1 : MI (6 + 2 * d) 1 ≤ 10) (x : Int) (E : VE X 0 0 110 Q (zq Q (zI fun r M L => L = ML ∧ r = x ∧ M = takM MI d p))) : ∀ (n k : Nat) (y : Int), y = k → p < k → (k : Int) ≤ MI (6 + 2 * d) 1 → MI (6 + 2 * d) 1 < k + n → V X (0, 0) 110 Q z_rf (takK MI d p k) ML 11 [(3, .int (iI y)), (2, .int (iI x)), (0, .ref (Q (6 + 2 * d))), (1, .int (iI (p : Int)))] [] := by
  intro n
  induction n with
  | zero => intro k y hy hp hk hn; exact absurd hn (by omega)
  | succ n ih =>
    intro k y hy hp hk hn
    refine v_iload_n K 0 dX2_takeOut_11 rfl rfl ?_
    refine v_aload_n K 2 dX2_takeOut_12 rfl rfl ?_
    refine v_geti K ff_X2_15 (by omega) (zk_dk hd) rfl dX2_takeOut_13 ?_
    refine v_eqi (MI (6 + 2 * d) 1) (by simp only [takK]; rw [if_neg (by omega)]) ?_
    refine v_icmp_ge K 39 ⟨by omega, by omega⟩ ⟨by omega, by omega⟩ dX2_takeOut_16 (by decide) (fun h16 => ?_) (fun h16 => ?_)
    · obtain rfl : k = (MI (6 + 2 * d) 1).toNat := by omega
      refine v_aload_n K 2 dX2_takeOut_39 rfl rfl ?_
      refine v_dup K dX2_takeOut_40 rfl ?_
      refine v_geti K ff_X2_15 (by omega) (zk_dk hd) rfl dX2_takeOut_41 ?_
      refine v_eqi (MI (6 + 2 * d) 1) (by simp only [takK]; rw [if_neg (by omega)]) ?_
      refine v_iconst K dX2_takeOut_44 ?_
      refine v_isub K dX2_takeOut_45 ?_
      refine v_puti K fp_X2_15 (by omega) (zk_dk hd) rfl dX2_takeOut_46 ?_
      refine v_iload_n K 1 dX2_takeOut_49 rfl rfl ?_
      exact v_ri K E dX2_takeOut_50 ⟨rfl, rfl, rfl⟩
    · refine v_aload_n K 2 dX2_takeOut_19 rfl rfl ?_
      refine v_getr K ff_X2_9 (by omega) (zk_dk hd) rfl (zr_dk hd) dX2_takeOut_20 ?_
      refine v_iload_n K 0 dX2_takeOut_23 rfl rfl ?_
      refine v_iconst K dX2_takeOut_24 ?_
      refine v_isub K dX2_takeOut_25 ?_
      refine v_aload_n K 2 dX2_takeOut_26 rfl rfl ?_
      refine v_getr K ff_X2_9 (by omega) (zk_dk hd) rfl (zr_dk hd) dX2_takeOut_27 ?_
      refine v_iload_n K 0 dX2_takeOut_30 rfl rfl ?_
      refine v_iald K (k) (by omega) (zk_dc hd) (by omega) (by rw [zl_dc hd]; omega) dX2_takeOut_31 ?_
      refine v_eqi (MI (7 + 2 * d) k) (by simp only [takK]; rw [if_neg (by omega)]) ?_
      refine v_iast K (k - 1) (by omega) (zk_dc hd) (by omega) (by rw [zl_dc hd]; omega) dX2_takeOut_32 ?_
      refine v_iinc K 0 (fun q9 => [(3, .int (iI q9)), (2, .int (iI x)), (0, .ref (Q (6 + 2 * d))), (1, .int (iI (p : Int)))]) dX2_takeOut_33 rfl (by decide) (fun _ => rfl) (fun w hw => ?_)
      refine v_goto K 11 dX2_takeOut_36 (by decide) ?_
      refine v_eqM (takK_s hp) ?_
      exact ih (k + 1) w (by omega) (by omega) (by omega) (by omega)
set_option maxRecDepth 100000 in
set_option maxHeartbeats 4000000 in
theorem c_X2_takeOut {l : Launch} {D : va_G} {Z : ZC} {Q : Nat → Nat} {MI ML : ZM} (d : Nat) (hd : d < 5) (p : Nat) (p9 : Int) (hp9 : p9 = p) (h0 : (p : Int) < MI (6 + 2 * d) 1) (h1 : MI (6 + 2 * d) 1 ≤ 10) : C_X2_takeOut l D Z Q [.ref (Q (6 + 2 * d)), .int (iI p9)] MI ML (zI fun r M L => L = ML ∧ r = MI (7 + 2 * d) p ∧ M = takM MI d p) := by
  subst hp9
  refine CM.of (by decide +kernel) (Nat.le_of_ble_eq_true rfl) ?_
  intro X K E _ _ _ _
  show V X (0, 0) 110 Q z_rf MI ML 0 [(0, .ref (Q (6 + 2 * d))), (1, .int (iI (p : Int)))] []
  refine v_aload_n K 0 dX2_takeOut_0 rfl rfl ?_
  refine v_getr K ff_X2_9 (by omega) (zk_dk hd) rfl (zr_dk hd) dX2_takeOut_1 ?_
  refine v_iload_n K 1 dX2_takeOut_4 rfl rfl ?_
  refine v_iald K (p) (by omega) (zk_dc hd) rfl (by rw [zl_dc hd]; omega) dX2_takeOut_5 ?_
  refine v_istore_n K (fun q9 => [(2, .int (iI q9)), (0, .ref (Q (6 + 2 * d))), (1, .int (iI (p : Int)))]) dX2_takeOut_6 rfl (by decide) (fun _ => rfl) (fun x hx => ?_)
  refine v_iload_n K 2 dX2_takeOut_7 rfl rfl ?_
  refine v_iconst K dX2_takeOut_8 ?_
  refine v_iadd K dX2_takeOut_9 ?_
  refine v_istore_n K (fun q9 => [(3, .int (iI q9)), (2, .int (iI x)), (0, .ref (Q (6 + 2 * d))), (1, .int (iI (p : Int)))]) dX2_takeOut_10 rfl (by decide) (fun _ => rfl) (fun y hy => ?_)
  subst hx
  have q := l_X2_takeOut K d hd p h0 h1 _ E 11 (p + 1) y (by omega) (by omega) (by omega) (by omega)
  rw [takK_0] at q
  exact q
set_option maxRecDepth 100000 in
set_option maxHeartbeats 4000000 in
theorem c_X2_exchange {l : Launch} {D : va_G} {Z : ZC} {Q : Nat → Nat} {MI ML : ZM} (d : Nat) (hd : d < 5) (a b : Nat) (ha : a < 10) (hb : b < 10) (a9 b9 : Int) (ha9 : a9 = a) (hb9 : b9 = b) : C_X2_exchange l D Z Q [.ref (Q (6 + 2 * d)), .int (iI a9), .int (iI b9)] MI ML (zV fun M L => L = ML ∧ M = z_up (z_up MI (7 + 2 * d) a (MI (7 + 2 * d) b)) (7 + 2 * d) b (MI (7 + 2 * d) a)) := by
  refine CM.of (by decide +kernel) (Nat.le_of_ble_eq_true rfl) ?_
  intro X K E _ _ _ _
  show V X (0, 0) 110 Q z_rf MI ML 0 [(0, .ref (Q (6 + 2 * d))), (1, .int (iI a9)), (2, .int (iI b9))] []
  refine v_aload_n K 0 dX2_exchange_0 rfl rfl ?_
  refine v_getr K ff_X2_9 (by omega) (zk_dk hd) rfl (zr_dk hd) dX2_exchange_1 ?_
  refine v_iload_n K 1 dX2_exchange_4 rfl rfl ?_
  refine v_iald K (a) (by omega) (zk_dc hd) (by omega) (by rw [zl_dc hd]; omega) dX2_exchange_5 ?_
  refine v_istore_n K (fun q9 => [(3, .int (iI q9)), (0, .ref (Q (6 + 2 * d))), (1, .int (iI a9)), (2, .int (iI b9))]) dX2_exchange_6 rfl (by decide) (fun _ => rfl) (fun x6 hx6 => ?_)
  refine v_aload_n K 1 dX2_exchange_7 rfl rfl ?_
  refine v_getr K ff_X2_9 (by omega) (zk_dk hd) rfl (zr_dk hd) dX2_exchange_8 ?_
  refine v_iload_n K 2 dX2_exchange_11 rfl rfl ?_
  refine v_aload_n K 1 dX2_exchange_12 rfl rfl ?_
  refine v_getr K ff_X2_9 (by omega) (zk_dk hd) rfl (zr_dk hd) dX2_exchange_13 ?_
  refine v_iload_n K 3 dX2_exchange_16 rfl rfl ?_
  refine v_iald K (b) (by omega) (zk_dc hd) (by omega) (by rw [zl_dc hd]; omega) dX2_exchange_17 ?_
  refine v_iast K (a) (by omega) (zk_dc hd) (by omega) (by rw [zl_dc hd]; omega) dX2_exchange_18 ?_
  refine v_aload_n K 1 dX2_exchange_19 rfl rfl ?_
  refine v_getr K ff_X2_9 (by omega) (zk_dk hd) rfl (zr_dk hd) dX2_exchange_20 ?_
  refine v_iload_n K 3 dX2_exchange_23 rfl rfl ?_
  refine v_iload_n K 0 dX2_exchange_24 rfl rfl ?_
  refine v_iast K (b) (by omega) (zk_dc hd) (by omega) (by rw [zl_dc hd]; omega) dX2_exchange_25 ?_
  exact v_rv K E dX2_exchange_26 ⟨rfl, by rw [hx6]⟩
set_option maxRecDepth 100000 in
set_option maxHeartbeats 4000000 in
theorem l_X2_firstPlaceOf {X : VX} {Q : Nat → Nat} {MI ML : ZM} (K : VK X cX2_firstPlaceOf RX2 3 (some .int) 0 0 0 0) (d : Nat) (hd : d < 5) (hcr : ∀ k : Nat, (k : Int) < MI (6 + 2 * d) 1 → rg (MI (7 + 2 * d) k)) (h1 : MI (6 + 2 * d) 1 ≤ 10) (c : Int) (hc : rg c) (E : VE X 0 0 110 Q (zq Q (zI fun r M L => M = MI ∧ L = ML ∧ r = fpl (MI (7 + 2 * d)) c (MI (6 + 2 * d) 1).toNat))) : ∀ (n k : Nat) (y : Int), y = k → fpl (MI (7 + 2 * d)) c k = -1 → (k : Int) ≤ MI (6 + 2 * d) 1 → MI (6 + 2 * d) 1 < k + n → V X (0, 0) 110 Q z_rf MI ML 2 [(2, .int (iI y)), (0, .ref (Q (6 + 2 * d))), (1, .int (iI c))] [] := by
  intro n
  induction n with
  | zero => intro k y hy hf hk hn; exact absurd hn (by omega)
  | succ n ih =>
    intro k y hy hf hk hn
    refine v_iload_n K 0 dX2_firstPlaceOf_2 rfl rfl ?_
    refine v_aload_n K 1 dX2_firstPlaceOf_3 rfl rfl ?_
    refine v_geti K ff_X2_15 (by omega) (zk_dk hd) rfl dX2_firstPlaceOf_4 ?_
    refine v_icmp_ge K 28 ⟨by omega, by omega⟩ ⟨by omega, by omega⟩ dX2_firstPlaceOf_7 (by decide) (fun h7 => ?_) (fun h7 => ?_)
    · obtain rfl : k = (MI (6 + 2 * d) 1).toNat := by omega
      refine v_iconst K dX2_firstPlaceOf_28 ?_
      exact v_ri K E dX2_firstPlaceOf_29 ⟨rfl, rfl, hf.symm⟩
    · have q := hcr k (by omega)
      refine v_aload_n K 1 dX2_firstPlaceOf_10 rfl rfl ?_
      refine v_getr K ff_X2_9 (by omega) (zk_dk hd) rfl (zr_dk hd) dX2_firstPlaceOf_11 ?_
      refine v_iload_n K 0 dX2_firstPlaceOf_14 rfl rfl ?_
      refine v_iald K (k) (by omega) (zk_dc hd) (by omega) (by rw [zl_dc hd]; omega) dX2_firstPlaceOf_15 ?_
      refine v_iload_n K 2 dX2_firstPlaceOf_16 rfl rfl ?_
      refine v_icmp_ne K 22 q hc dX2_firstPlaceOf_17 (by decide) (fun h17 => ?_) (fun h17 => ?_)
      · refine v_iinc K 0 (fun q9 => [(2, .int (iI q9)), (0, .ref (Q (6 + 2 * d))), (1, .int (iI c))]) dX2_firstPlaceOf_22 rfl (by decide) (fun _ => rfl) (fun w hw => ?_)
        refine v_goto K 2 dX2_firstPlaceOf_25 (by decide) ?_
        exact ih (k + 1) w (by omega) (by simp only [fpl]; rw [if_pos hf, if_neg h17]) (by omega) (by omega)
      · refine v_iload_n K 0 dX2_firstPlaceOf_20 rfl rfl ?_
        exact v_ri K E dX2_firstPlaceOf_21 ⟨rfl, rfl, by rw [hy]; exact (fpl_up (k := k + 1) (by simp only [fpl]; rw [if_pos hf, if_pos h17]) (by omega) _ (by omega)).symm⟩
set_option maxRecDepth 100000 in
set_option maxHeartbeats 4000000 in
theorem c_X2_firstPlaceOf {l : Launch} {D : va_G} {Z : ZC} {Q : Nat → Nat} {MI ML : ZM} (d : Nat) (hd : d < 5) (hcr : ∀ k : Nat, (k : Int) < MI (6 + 2 * d) 1 → rg (MI (7 + 2 * d) k)) (h0 : 0 ≤ MI (6 + 2 * d) 1) (h1 : MI (6 + 2 * d) 1 ≤ 10) (c : Int) (hc : rg c) : C_X2_firstPlaceOf l D Z Q [.ref (Q (6 + 2 * d)), .int (iI c)] MI ML (zI fun r M L => M = MI ∧ L = ML ∧ r = fpl (MI (7 + 2 * d)) c (MI (6 + 2 * d) 1).toNat) := by
  refine CM.of (by decide +kernel) (Nat.le_of_ble_eq_true rfl) ?_
  intro X K E _ _ _ _
  show V X (0, 0) 110 Q z_rf MI ML 0 [(0, .ref (Q (6 + 2 * d))), (1, .int (iI c))] []
  refine v_iconst K dX2_firstPlaceOf_0 ?_
  refine v_istore_n K (fun q9 => [(2, .int (iI q9)), (0, .ref (Q (6 + 2 * d))), (1, .int (iI c))]) dX2_firstPlaceOf_1 rfl (by decide) (fun _ => rfl) (fun y hy => ?_)
  exact l_X2_firstPlaceOf K d hd hcr h1 c hc E 11 0 y hy rfl (by omega) (by omega)
set_option maxRecDepth 100000 in
set_option maxHeartbeats 4000000 in
theorem c_X8_add {l : Launch} {D : va_G} {Z : ZC} {Q : Nat → Nat} {MI ML : ZM} (hM : cOk MI) (d c : Int) (hd : rg d) (hc : rg c) : C_X8_add l D Z Q [.ref (Q 0), .int (iI d), .int (iI c)] MI ML (zI fun r M L => L = ML ∧ ((r = -2 ∧ M = MI ∧ ¬ (0 ≤ d ∧ d < MI 0 8 ∧ 0 ≤ c ∧ c < MI 1 3)) ∨ ((0 ≤ d ∧ d < MI 0 8 ∧ 0 ≤ c ∧ c < MI 1 3) ∧ ((MI (6 + 2 * d.toNat) 1 = 10 ∧ r = -4 ∧ M = MI) ∨ (MI (6 + 2 * d.toNat) 1 < 10 ∧ r = MI (6 + 2 * d.toNat) 1 + 1 ∧ M = fgT (z_up (z_up MI (7 + 2 * d.toNat) (MI (6 + 2 * d.toNat) 1).toNat c) (6 + 2 * d.toNat) 1 (MI (6 + 2 * d.toNat) 1 + 1))))))) := by
  refine CM.of (by decide +kernel) (Nat.le_of_ble_eq_true rfl) ?_
  intro X K E _ _ _ _
  show V X (0, 0) 110 Q z_rf MI ML 0 [(0, .ref (Q 0)), (1, .int (iI d)), (2, .int (iI c))] []
  have u0 := hM.1
  have u4 := hM.2.1
  have u7 := hM.2.2.1
  have ua := hM.2.2.2.1
  have us := hM.2.2.2.2.1
  have uk := hM.2.2.2.2.2
  refine v_aload_n K 0 dX8_add_0 rfl rfl ?_
  refine v_iload_n K 1 dX8_add_1 rfl rfl ?_
  refine v_cVi K (c_X8_isNoDeck hM _ hd) rfl fc_X8_85 wm_X8_isNoDeck ws_X8_isNoDeck (by decide) 8 rfl (by decide) rfl rfl (by decide) (Nat.le_of_ble_eq_true rfl) dX8_add_2 (fun r2 M2 L2 h2 => ?_)
  obtain ⟨hm2, hl2, hr2⟩ := h2
  subst M2 L2
  refine v_if_ne K 16 ⟨by omega, by omega⟩ dX8_add_5 (by decide) (fun h5 => ?_) (fun h5 => ?_)
  · refine v_bipush K dX8_add_16 (by decide) ?_
    exact v_ri K E dX8_add_18 ⟨rfl, Or.inl ⟨rfl, rfl, by omega⟩⟩
  · refine v_aload_n K 0 dX8_add_8 rfl rfl ?_
    refine v_iload_n K 2 dX8_add_9 rfl rfl ?_
    refine v_cVi K (c_X8_isNoCard hM _ hc) rfl fc_X8_72 wm_X8_isNoCard ws_X8_isNoCard (by decide) 8 rfl (by decide) rfl rfl (by decide) (Nat.le_of_ble_eq_true rfl) dX8_add_10 (fun r10 M10 L10 h10 => ?_)
    obtain ⟨hm10, hl10, hr10⟩ := h10
    subst M10 L10
    refine v_if_eq K 19 ⟨by omega, by omega⟩ dX8_add_13 (by decide) (fun h13 => ?_) (fun h13 => ?_)
    · refine v_aload_n K 0 dX8_add_19 rfl rfl ?_
      refine v_getr K ff_X8_18 (by decide) rfl rfl rfl dX8_add_20 ?_
      refine v_iload_n K 1 dX8_add_23 rfl rfl ?_
      refine v_aaldD K (d.toNat) (by decide) rfl (by omega) (by show _ < 5; omega) (zr_decks (by omega)) dX8_add_24 ?_
      refine v_iload_n K 2 dX8_add_25 rfl rfl ?_
      have w := us d.toNat (by omega)
      refine v_cVi K (c_X2_append d.toNat (by omega) c (by omega) (by omega)) rfl fc_X8_88 wm_X2_append ws_X2_append (by omega) 2 (zk_dk (by omega)) (by decide) rfl rfl (by decide) (Nat.le_of_ble_eq_true rfl) dX8_add_26 (fun r26 M26 L26 h26 => ?_)
      obtain ⟨hl26, h26⟩ := h26
      subst L26
      refine v_istore_n K (fun q9 => [(3, .int (iI q9)), (0, .ref (Q 0)), (1, .int (iI d)), (2, .int (iI c))]) dX8_add_29 rfl (by decide) (fun _ => rfl) (fun x29 hx29 => ?_)
      refine v_iload_n K 0 dX8_add_30 rfl rfl ?_
      refine v_bipush K dX8_add_31 (by decide) ?_
      refine v_icmp_eq K 40 ⟨by omega, by omega⟩ ⟨by omega, by omega⟩ dX8_add_33 (by decide) (fun h33 => ?_) (fun h33 => ?_)
      · have g26 : MI (6 + 2 * d.toNat) 1 = 10 ∧ r26 = -4 ∧ M26 = MI := by rcases h26 with q | q; exact q; exact absurd q.2.1 (by omega)
        obtain ⟨s26, e26, m26⟩ := g26
        subst M26
        refine v_iload_n K 0 dX8_add_40 rfl rfl ?_
        exact v_ri K E dX8_add_41 ⟨rfl, Or.inr ⟨by omega, by first | exact Or.inl ⟨s26, by omega, rfl⟩ | exact Or.inr ⟨s26, by omega, rfl⟩⟩⟩
      · have g26 : MI (6 + 2 * d.toNat) 1 < 10 ∧ r26 = MI (6 + 2 * d.toNat) 1 + 1 ∧ M26 = z_up (z_up MI (7 + 2 * d.toNat) (MI (6 + 2 * d.toNat) 1).toNat c) (6 + 2 * d.toNat) 1 (MI (6 + 2 * d.toNat) 1 + 1) := by rcases h26 with q | q; exact absurd q.2.1 (by omega); exact q
        obtain ⟨s26, e26, m26⟩ := g26
        subst M26
        refine v_aload_n K 1 dX8_add_36 rfl rfl ?_
        refine v_cVv K (c_X8_forgetTables) rfl fc_X8_79 wm_X8_forgetTables ws_X8_forgetTables (by decide) 8 rfl (by decide) rfl rfl (by decide) (Nat.le_of_ble_eq_true rfl) dX8_add_37 (fun M37 L37 h37 => ?_)
        obtain ⟨hl37, hm37⟩ := h37
        subst M37 L37
        refine v_iload_n K 0 dX8_add_40 rfl rfl ?_
        exact v_ri K E dX8_add_41 ⟨rfl, Or.inr ⟨by omega, by first | exact Or.inl ⟨s26, by omega, rfl⟩ | exact Or.inr ⟨s26, by omega, rfl⟩⟩⟩
    · refine v_bipush K dX8_add_16 (by decide) ?_
      exact v_ri K E dX8_add_18 ⟨rfl, Or.inl ⟨rfl, rfl, by omega⟩⟩
set_option maxRecDepth 100000 in
set_option maxHeartbeats 4000000 in
theorem c_X8_drop {l : Launch} {D : va_G} {Z : ZC} {Q : Nat → Nat} {MI ML : ZM} (hM : cOk MI) (d k : Int) (hd : rg d) (hk : rg k) : C_X8_drop l D Z Q [.ref (Q 0), .int (iI d), .int (iI k)] MI ML (zI fun r M L => L = ML ∧ ((r = -2 ∧ M = MI ∧ ¬ (0 ≤ d ∧ d < MI 0 8 ∧ 0 ≤ k ∧ k < MI (6 + 2 * d.toNat) 1)) ∨ ((0 ≤ d ∧ d < MI 0 8 ∧ 0 ≤ k ∧ k < MI (6 + 2 * d.toNat) 1) ∧ r = MI (7 + 2 * d.toNat) k.toNat ∧ M = fgT (takM MI d.toNat k.toNat)))) := by
  refine CM.of (by decide +kernel) (Nat.le_of_ble_eq_true rfl) ?_
  intro X K E _ _ _ _
  show V X (0, 0) 110 Q z_rf MI ML 0 [(0, .ref (Q 0)), (1, .int (iI d)), (2, .int (iI k))] []
  have u0 := hM.1
  have u4 := hM.2.1
  have u7 := hM.2.2.1
  have ua := hM.2.2.2.1
  have us := hM.2.2.2.2.1
  have uk := hM.2.2.2.2.2
  refine v_aload_n K 0 dX8_drop_0 rfl rfl ?_
  refine v_iload_n K 1 dX8_drop_1 rfl rfl ?_
  refine v_cVi K (c_X8_isNoDeck hM _ hd) rfl fc_X8_85 wm_X8_isNoDeck ws_X8_isNoDeck (by decide) 8 rfl (by decide) rfl rfl (by decide) (Nat.le_of_ble_eq_true rfl) dX8_drop_2 (fun r2 M2 L2 h2 => ?_)
  obtain ⟨hm2, hl2, hr2⟩ := h2
  subst M2 L2
  refine v_if_ne K 17 ⟨by omega, by omega⟩ dX8_drop_5 (by decide) (fun h5 => ?_) (fun h5 => ?_)
  · refine v_bipush K dX8_drop_17 (by decide) ?_
    exact v_ri K E dX8_drop_19 ⟨rfl, Or.inl ⟨rfl, rfl, by omega⟩⟩
  · refine v_aload_n K 0 dX8_drop_8 rfl rfl ?_
    refine v_iload_n K 1 dX8_drop_9 rfl rfl ?_
    refine v_iload_n K 2 dX8_drop_10 rfl rfl ?_
    refine v_cVi K (c_X8_isNoPlace hM d (by omega) (by omega) _ hk) rfl fc_X8_92 wm_X8_isNoPlace ws_X8_isNoPlace (by decide) 8 rfl (by decide) rfl rfl (by decide) (Nat.le_of_ble_eq_true rfl) dX8_drop_11 (fun r11 M11 L11 h11 => ?_)
    obtain ⟨hm11, hl11, hr11⟩ := h11
    subst M11 L11
    refine v_if_eq K 20 ⟨by omega, by omega⟩ dX8_drop_14 (by decide) (fun h14 => ?_) (fun h14 => ?_)
    · refine v_aload_n K 0 dX8_drop_20 rfl rfl ?_
      refine v_getr K ff_X8_18 (by decide) rfl rfl rfl dX8_drop_21 ?_
      refine v_iload_n K 1 dX8_drop_24 rfl rfl ?_
      refine v_aaldD K (d.toNat) (by decide) rfl (by omega) (by show _ < 5; omega) (zr_decks (by omega)) dX8_drop_25 ?_
      refine v_iload_n K 2 dX8_drop_26 rfl rfl ?_
      have w := us d.toNat (by omega)
      refine v_cVi K (c_X2_takeOut d.toNat (by omega) k.toNat _ (by omega) (by omega) (by omega)) rfl fc_X8_96 wm_X2_takeOut ws_X2_takeOut (by omega) 2 (zk_dk (by omega)) (by decide) rfl rfl (by decide) (Nat.le_of_ble_eq_true rfl) dX8_drop_27 (fun r27 M27 L27 h27 => ?_)
      obtain ⟨hl27, h27r, hm27⟩ := h27
      subst M27 L27
      refine v_istore_n K (fun q9 => [(3, .int (iI q9)), (0, .ref (Q 0)), (1, .int (iI d)), (2, .int (iI k))]) dX8_drop_30 rfl (by decide) (fun _ => rfl) (fun x30 hx30 => ?_)
      refine v_aload_n K 1 dX8_drop_31 rfl rfl ?_
      refine v_cVv K (c_X8_forgetTables) rfl fc_X8_79 wm_X8_forgetTables ws_X8_forgetTables (by decide) 8 rfl (by decide) rfl rfl (by decide) (Nat.le_of_ble_eq_true rfl) dX8_drop_32 (fun M32 L32 h32 => ?_)
      obtain ⟨hl32, hm32⟩ := h32
      subst M32 L32
      refine v_iload_n K 0 dX8_drop_35 rfl rfl ?_
      exact v_ri K E dX8_drop_36 ⟨rfl, Or.inr ⟨by omega, by omega, rfl⟩⟩
    · refine v_bipush K dX8_drop_17 (by decide) ?_
      exact v_ri K E dX8_drop_19 ⟨rfl, Or.inl ⟨rfl, rfl, by omega⟩⟩
set_option maxRecDepth 100000 in
set_option maxHeartbeats 4000000 in
theorem c_X8_swap {l : Launch} {D : va_G} {Z : ZC} {Q : Nat → Nat} {MI ML : ZM} (hM : cOk MI) (d a b : Int) (hd : rg d) (ha : rg a) (hb : rg b) : C_X8_swap l D Z Q [.ref (Q 0), .int (iI d), .int (iI a), .int (iI b)] MI ML (zI fun r M L => L = ML ∧ ((r = -2 ∧ M = MI ∧ ¬ (0 ≤ d ∧ d < MI 0 8 ∧ 0 ≤ a ∧ a < MI (6 + 2 * d.toNat) 1 ∧ 0 ≤ b ∧ b < MI (6 + 2 * d.toNat) 1)) ∨ ((0 ≤ d ∧ d < MI 0 8 ∧ 0 ≤ a ∧ a < MI (6 + 2 * d.toNat) 1 ∧ 0 ≤ b ∧ b < MI (6 + 2 * d.toNat) 1) ∧ r = 1 ∧ M = fgT (z_up (z_up MI (7 + 2 * d.toNat) a.toNat (MI (7 + 2 * d.toNat) b.toNat)) (7 + 2 * d.toNat) b.toNat (MI (7 + 2 * d.toNat) a.toNat))))) := by
  refine CM.of (by decide +kernel) (Nat.le_of_ble_eq_true rfl) ?_
  intro X K E _ _ _ _
  show V X (0, 0) 110 Q z_rf MI ML 0 [(0, .ref (Q 0)), (1, .int (iI d)), (2, .int (iI a)), (3, .int (iI b))] []
  have u0 := hM.1
  have u4 := hM.2.1
  have u7 := hM.2.2.1
  have ua := hM.2.2.2.1
  have us := hM.2.2.2.2.1
  have uk := hM.2.2.2.2.2
  refine v_aload_n K 0 dX8_swap_0 rfl rfl ?_
  refine v_iload_n K 1 dX8_swap_1 rfl rfl ?_
  refine v_cVi K (c_X8_isNoDeck hM _ hd) rfl fc_X8_85 wm_X8_isNoDeck ws_X8_isNoDeck (by decide) 8 rfl (by decide) rfl rfl (by decide) (Nat.le_of_ble_eq_true rfl) dX8_swap_2 (fun r2 M2 L2 h2 => ?_)
  obtain ⟨hm2, hl2, hr2⟩ := h2
  subst M2 L2
  refine v_if_ne K 26 ⟨by omega, by omega⟩ dX8_swap_5 (by decide) (fun h5 => ?_) (fun h5 => ?_)
  · refine v_bipush K dX8_swap_26 (by decide) ?_
    exact v_ri K E dX8_swap_28 ⟨rfl, Or.inl ⟨rfl, rfl, by omega⟩⟩
  · refine v_aload_n K 0 dX8_swap_8 rfl rfl ?_
    refine v_iload_n K 1 dX8_swap_9 rfl rfl ?_
    refine v_iload_n K 2 dX8_swap_10 rfl rfl ?_
    refine v_cVi K (c_X8_isNoPlace hM d (by omega) (by omega) _ ha) rfl fc_X8_92 wm_X8_isNoPlace ws_X8_isNoPlace (by decide) 8 rfl (by decide) rfl rfl (by decide) (Nat.le_of_ble_eq_true rfl) dX8_swap_11 (fun r11 M11 L11 h11 => ?_)
    obtain ⟨hm11, hl11, hr11⟩ := h11
    subst M11 L11
    refine v_if_ne K 26 ⟨by omega, by omega⟩ dX8_swap_14 (by decide) (fun h14 => ?_) (fun h14 => ?_)
    · refine v_bipush K dX8_swap_26 (by decide) ?_
      exact v_ri K E dX8_swap_28 ⟨rfl, Or.inl ⟨rfl, rfl, by omega⟩⟩
    · refine v_aload_n K 0 dX8_swap_17 rfl rfl ?_
      refine v_iload_n K 1 dX8_swap_18 rfl rfl ?_
      refine v_iload_n K 3 dX8_swap_19 rfl rfl ?_
      refine v_cVi K (c_X8_isNoPlace hM d (by omega) (by omega) _ hb) rfl fc_X8_92 wm_X8_isNoPlace ws_X8_isNoPlace (by decide) 8 rfl (by decide) rfl rfl (by decide) (Nat.le_of_ble_eq_true rfl) dX8_swap_20 (fun r20 M20 L20 h20 => ?_)
      obtain ⟨hm20, hl20, hr20⟩ := h20
      subst M20 L20
      refine v_if_eq K 29 ⟨by omega, by omega⟩ dX8_swap_23 (by decide) (fun h23 => ?_) (fun h23 => ?_)
      · refine v_aload_n K 0 dX8_swap_29 rfl rfl ?_
        refine v_getr K ff_X8_18 (by decide) rfl rfl rfl dX8_swap_30 ?_
        refine v_iload_n K 1 dX8_swap_33 rfl rfl ?_
        refine v_aaldD K (d.toNat) (by decide) rfl (by omega) (by show _ < 5; omega) (zr_decks (by omega)) dX8_swap_34 ?_
        refine v_iload_n K 2 dX8_swap_35 rfl rfl ?_
        refine v_iload_n K 3 dX8_swap_36 rfl rfl ?_
        have w := us d.toNat (by omega)
        refine v_cVv K (c_X2_exchange d.toNat (by omega) a.toNat b.toNat (by omega) (by omega) _ _ (by omega) (by omega)) rfl fc_X8_99 wm_X2_exchange ws_X2_exchange (by omega) 2 (zk_dk (by omega)) (by decide) rfl rfl (by decide) (Nat.le_of_ble_eq_true rfl) dX8_swap_37 (fun M37 L37 h37 => ?_)
        obtain ⟨hl37, hm37⟩ := h37
        subst M37 L37
        refine v_aload_n K 0 dX8_swap_40 rfl rfl ?_
        refine v_cVv K (c_X8_forgetTables) rfl fc_X8_79 wm_X8_forgetTables ws_X8_forgetTables (by decide) 8 rfl (by decide) rfl rfl (by decide) (Nat.le_of_ble_eq_true rfl) dX8_swap_41 (fun M41 L41 h41 => ?_)
        obtain ⟨hl41, hm41⟩ := h41
        subst M41 L41
        refine v_iconst K dX8_swap_44 ?_
        exact v_ri K E dX8_swap_45 ⟨rfl, Or.inr ⟨by omega, rfl, rfl⟩⟩
      · refine v_bipush K dX8_swap_26 (by decide) ?_
        exact v_ri K E dX8_swap_28 ⟨rfl, Or.inl ⟨rfl, rfl, by omega⟩⟩
set_option maxRecDepth 100000 in
set_option maxHeartbeats 4000000 in
theorem c_X8_at {l : Launch} {D : va_G} {Z : ZC} {Q : Nat → Nat} {MI ML : ZM} (hM : cOk MI) (d k : Int) (hd : rg d) (hk : rg k) : C_X8_at l D Z Q [.ref (Q 0), .int (iI d), .int (iI k)] MI ML (zI fun r M L => L = ML ∧ M = MI ∧ ((r = -2 ∧ ¬ (0 ≤ d ∧ d < MI 0 8 ∧ 0 ≤ k)) ∨ ((0 ≤ d ∧ d < MI 0 8 ∧ 0 ≤ k) ∧ ((k < MI (6 + 2 * d.toNat) 1 ∧ r = MI (7 + 2 * d.toNat) k.toNat) ∨ (MI (6 + 2 * d.toNat) 1 ≤ k ∧ r = -1))))) := by
  refine CM.of (by decide +kernel) (Nat.le_of_ble_eq_true rfl) ?_
  intro X K E _ _ _ _
  show V X (0, 0) 110 Q z_rf MI ML 0 [(0, .ref (Q 0)), (1, .int (iI d)), (2, .int (iI k))] []
  have u0 := hM.1
  have u4 := hM.2.1
  have u7 := hM.2.2.1
  have ua := hM.2.2.2.1
  have us := hM.2.2.2.2.1
  have uk := hM.2.2.2.2.2
  refine v_aload_n K 0 dX8_at_0 rfl rfl ?_
  refine v_iload_n K 1 dX8_at_1 rfl rfl ?_
  refine v_cVi K (c_X8_isNoDeck hM _ hd) rfl fc_X8_85 wm_X8_isNoDeck ws_X8_isNoDeck (by decide) 8 rfl (by decide) rfl rfl (by decide) (Nat.le_of_ble_eq_true rfl) dX8_at_2 (fun r2 M2 L2 h2 => ?_)
  obtain ⟨hm2, hl2, hr2⟩ := h2
  subst M2 L2
  refine v_if_ne K 12 ⟨by omega, by omega⟩ dX8_at_5 (by decide) (fun h5 => ?_) (fun h5 => ?_)
  · refine v_bipush K dX8_at_12 (by decide) ?_
    exact v_ri K E dX8_at_14 ⟨rfl, rfl, Or.inl ⟨rfl, by omega⟩⟩
  · refine v_iload_n K 2 dX8_at_8 rfl rfl ?_
    refine v_if_ge K 15 hk dX8_at_9 (by decide) (fun h9 => ?_) (fun h9 => ?_)
    · refine v_aload_n K 0 dX8_at_15 rfl rfl ?_
      refine v_iload_n K 1 dX8_at_16 rfl rfl ?_
      refine v_iload_n K 2 dX8_at_17 rfl rfl ?_
      refine v_cVi K (c_X8_isNoPlace hM d (by omega) (by omega) _ hk) rfl fc_X8_92 wm_X8_isNoPlace ws_X8_isNoPlace (by decide) 8 rfl (by decide) rfl rfl (by decide) (Nat.le_of_ble_eq_true rfl) dX8_at_18 (fun r18 M18 L18 h18 => ?_)
      obtain ⟨hm18, hl18, hr18⟩ := h18
      subst M18 L18
      have w := us d.toNat (by omega)
      refine v_if_eq K 28 ⟨by omega, by omega⟩ dX8_at_21 (by decide) (fun h21 => ?_) (fun h21 => ?_)
      · refine v_aload_n K 0 dX8_at_28 rfl rfl ?_
        refine v_getr K ff_X8_18 (by decide) rfl rfl rfl dX8_at_29 ?_
        refine v_iload_n K 1 dX8_at_32 rfl rfl ?_
        refine v_aaldD K (d.toNat) (by decide) rfl (by omega) (by show _ < 5; omega) (zr_decks (by omega)) dX8_at_33 ?_
        refine v_getr K ff_X8_103 (by omega) (zk_dk (by omega)) rfl (zr_dk (by omega)) dX8_at_34 ?_
        refine v_iload_n K 2 dX8_at_37 rfl rfl ?_
        refine v_iald K (k.toNat) (by omega) (zk_dc (by omega)) (by omega) (by rw [zl_dc (by omega)]; omega) dX8_at_38 ?_
        exact v_ri K E dX8_at_39 ⟨rfl, rfl, Or.inr ⟨by omega, by first | exact Or.inl ⟨by omega, rfl⟩ | exact Or.inr ⟨by omega, rfl⟩⟩⟩
      · refine v_iconst K dX8_at_24 ?_
        refine v_goto K 39 dX8_at_25 (by decide) ?_
        exact v_ri K E dX8_at_39 ⟨rfl, rfl, Or.inr ⟨by omega, by first | exact Or.inl ⟨by omega, rfl⟩ | exact Or.inr ⟨by omega, rfl⟩⟩⟩
    · refine v_bipush K dX8_at_12 (by decide) ?_
      exact v_ri K E dX8_at_14 ⟨rfl, rfl, Or.inl ⟨rfl, by omega⟩⟩
set_option maxRecDepth 100000 in
set_option maxHeartbeats 4000000 in
theorem c_X8_life {l : Launch} {D : va_G} {Z : ZC} {Q : Nat → Nat} {MI ML : ZM} (v : Int) (hv : rg v) : C_X8_life l D Z Q [.ref (Q 0), .int (iI v)] MI ML (zI fun r M L => L = ML ∧ ((r = -2 ∧ M = MI ∧ ¬ (5 ≤ v ∧ v ≤ 40)) ∨ ((5 ≤ v ∧ v ≤ 40) ∧ r = MI 0 9 ∧ M = fgT (z_up MI 0 9 v)))) := by
  refine CM.of (by decide +kernel) (Nat.le_of_ble_eq_true rfl) ?_
  intro X K E _ _ _ _
  show V X (0, 0) 110 Q z_rf MI ML 0 [(0, .ref (Q 0)), (1, .int (iI v))] []
  refine v_iload_n K 1 dX8_life_0 rfl rfl ?_
  refine v_iconst K dX8_life_1 ?_
  refine v_bipush K dX8_life_2 (by decide) ?_
  refine v_cSi K (c_X8_isOutside _ _ _ hv ⟨by omega, by omega⟩ ⟨by omega, by omega⟩) rfl fc_X8_64 wt_X8_isOutside rfl (by decide) (Nat.le_of_ble_eq_true rfl) dX8_life_4 (fun r4 M4 L4 h4 => ?_)
  obtain ⟨hm4, hl4, hr4⟩ := h4
  subst M4 L4
  refine v_if_eq K 13 ⟨by omega, by omega⟩ dX8_life_7 (by decide) (fun h7 => ?_) (fun h7 => ?_)
  · refine v_aload_n K 0 dX8_life_13 rfl rfl ?_
    refine v_geti K ff_X8_60 (by decide) rfl rfl dX8_life_14 ?_
    refine v_istore_n K (fun q9 => [(2, .int (iI q9)), (0, .ref (Q 0)), (1, .int (iI v))]) dX8_life_17 rfl (by decide) (fun _ => rfl) (fun x17 hx17 => ?_)
    refine v_aload_n K 1 dX8_life_18 rfl rfl ?_
    refine v_iload_n K 2 dX8_life_19 rfl rfl ?_
    refine v_puti K fp_X8_60 (by decide) rfl rfl dX8_life_20 ?_
    refine v_aload_n K 1 dX8_life_23 rfl rfl ?_
    refine v_cVv K (c_X8_forgetTables) rfl fc_X8_79 wm_X8_forgetTables ws_X8_forgetTables (by decide) 8 rfl (by decide) rfl rfl (by decide) (Nat.le_of_ble_eq_true rfl) dX8_life_24 (fun M24 L24 h24 => ?_)
    obtain ⟨hl24, hm24⟩ := h24
    subst M24 L24
    refine v_iload_n K 0 dX8_life_27 rfl rfl ?_
    exact v_ri K E dX8_life_28 ⟨rfl, Or.inr ⟨by omega, hx17, rfl⟩⟩
  · refine v_bipush K dX8_life_10 (by decide) ?_
    exact v_ri K E dX8_life_12 ⟨rfl, Or.inl ⟨rfl, rfl, by omega⟩⟩
set_option maxRecDepth 100000 in
set_option maxHeartbeats 4000000 in
theorem l_X8_cardsInDecks {X : VX} {Q : Nat → Nat} {MI ML : ZM} (K : VK X cX8_cardsInDecks RX8 3 (some .int) 0 0 0 0) (hM : cOk MI) (E : VE X 0 0 110 Q (zq Q (zI fun r M L => M = MI ∧ L = ML ∧ r = sumK (fun d => MI (6 + 2 * d) 1) (MI 0 8).toNat))) : ∀ (n k : Nat) (y x : Int), y = k → x = sumK (fun d => MI (6 + 2 * d) 1) k → (k : Int) ≤ MI 0 8 → MI 0 8 < k + n → V X (0, 0) 110 Q z_rf MI ML 4 [(2, .int (iI y)), (1, .int (iI x)), (0, .ref (Q 0))] [] := by
  have u4 := hM.2.1
  intro n
  induction n with
  | zero => intro k y x hy hx hk hn; exact absurd hn (by omega)
  | succ n ih =>
    intro k y x hy hx hk hn
    refine v_iload_n K 0 dX8_cardsInDecks_4 rfl rfl ?_
    refine v_aload_n K 2 dX8_cardsInDecks_5 rfl rfl ?_
    refine v_geti K ff_X8_82 (by decide) rfl rfl dX8_cardsInDecks_6 ?_
    refine v_icmp_ge K 30 ⟨by omega, by omega⟩ ⟨by omega, by omega⟩ dX8_cardsInDecks_9 (by decide) (fun h9 => ?_) (fun h9 => ?_)
    · obtain rfl : k = (MI 0 8).toNat := by omega
      refine v_iload_n K 1 dX8_cardsInDecks_30 rfl rfl ?_
      exact v_ri K E dX8_cardsInDecks_31 ⟨rfl, rfl, hx⟩
    · refine v_iload_n K 1 dX8_cardsInDecks_12 rfl rfl ?_
      refine v_aload_n K 2 dX8_cardsInDecks_13 rfl rfl ?_
      refine v_getr K ff_X8_18 (by decide) rfl rfl rfl dX8_cardsInDecks_14 ?_
      refine v_iload_n K 0 dX8_cardsInDecks_17 rfl rfl ?_
      refine v_aaldD K (k) (by decide) rfl (by omega) (by show _ < 5; omega) (zr_decks (by omega)) dX8_cardsInDecks_18 ?_
      refine v_geti K ff_X8_185 (by omega) (zk_dk (by omega)) rfl dX8_cardsInDecks_19 ?_
      refine v_iadd K dX8_cardsInDecks_22 ?_
      refine v_istore_n K (fun q9 => [(1, .int (iI q9)), (2, .int (iI y)), (0, .ref (Q 0))]) dX8_cardsInDecks_23 rfl (by decide) (fun _ => rfl) (fun v hv => ?_)
      refine v_iinc K 1 (fun q9 => [(2, .int (iI q9)), (1, .int (iI v)), (0, .ref (Q 0))]) dX8_cardsInDecks_24 rfl (by decide) (fun _ => rfl) (fun w hw => ?_)
      refine v_goto K 4 dX8_cardsInDecks_27 (by decide) ?_
      exact ih (k + 1) w v (by omega) (by rw [hv, hx]; rfl) (by omega) (by omega)
set_option maxRecDepth 100000 in
set_option maxHeartbeats 4000000 in
theorem c_X8_cardsInDecks {l : Launch} {D : va_G} {Z : ZC} {Q : Nat → Nat} {MI ML : ZM} (hM : cOk MI) : C_X8_cardsInDecks l D Z Q [.ref (Q 0)] MI ML (zI fun r M L => M = MI ∧ L = ML ∧ r = sumK (fun d => MI (6 + 2 * d) 1) (MI 0 8).toNat) := by
  refine CM.of (by decide +kernel) (Nat.le_of_ble_eq_true rfl) ?_
  intro X K E _ _ _ _
  show V X (0, 0) 110 Q z_rf MI ML 0 [(0, .ref (Q 0))] []
  refine v_iconst K dX8_cardsInDecks_0 ?_
  refine v_istore_n K (fun q9 => [(1, .int (iI q9)), (0, .ref (Q 0))]) dX8_cardsInDecks_1 rfl (by decide) (fun _ => rfl) (fun x hx => ?_)
  refine v_iconst K dX8_cardsInDecks_2 ?_
  refine v_istore_n K (fun q9 => [(2, .int (iI q9)), (1, .int (iI x)), (0, .ref (Q 0))]) dX8_cardsInDecks_3 rfl (by decide) (fun _ => rfl) (fun y hy => ?_)
  have u4 := hM.2.1
  exact l_X8_cardsInDecks K hM E 6 0 y x hy hx (by omega) (by omega)
set_option maxRecDepth 100000 in
set_option maxHeartbeats 4000000 in
theorem c_X8_count {l : Launch} {D : va_G} {Z : ZC} {Q : Nat → Nat} {MI ML : ZM} (hM : cOk MI) (w : Int) (hw : rg w) : C_X8_count l D Z Q [.ref (Q 0), .int (iI w)] MI ML (zI fun r M L => L = ML ∧ M = MI ∧ ((w = 0 ∧ r = MI 1 3) ∨ (w = 1 ∧ r = MI 0 8) ∨ (w = 2 ∧ r = sumK (fun d => MI (6 + 2 * d) 1) (MI 0 8).toNat) ∨ (w = 3 ∧ r = MI 0 9) ∨ ((w < 0 ∨ 3 < w) ∧ r = -2))) := by
  refine CM.of (by decide +kernel) (Nat.le_of_ble_eq_true rfl) ?_
  intro X K E _ _ _ _
  show V X (0, 0) 110 Q z_rf MI ML 0 [(0, .ref (Q 0)), (1, .int (iI w))] []
  refine v_iload_n K 1 dX8_count_0 rfl rfl ?_
  by_cases c1 : w < 0 ∨ 3 < w
  · refine v_tableOut K 55 hw dX8_count_1 c1 (by decide) ?_
    refine v_bipush K dX8_count_55 (by decide) ?_
    exact v_ri K E dX8_count_57 ⟨rfl, rfl, Or.inr (Or.inr (Or.inr (Or.inr ⟨c1, rfl⟩)))⟩
  rcases (show w = 0 ∨ w = 1 ∨ w = 2 ∨ w = 3 by omega) with c1 | c1 | c1 | c1
  · refine v_tableIn K 32 (off := 31) hw dX8_count_1 (by omega) (by rw [c1]; rfl) (by decide) ?_
    refine v_aload_n K 0 dX8_count_32 rfl rfl ?_
    refine v_getr K ff_X8_10 (by decide) rfl rfl rfl dX8_count_33 ?_
    refine v_geti K ff_X8_176 (by decide) rfl rfl dX8_count_36 ?_
    exact v_ri K E dX8_count_39 ⟨rfl, rfl, Or.inl ⟨c1, rfl⟩⟩
  · refine v_tableIn K 40 (off := 39) hw dX8_count_1 (by omega) (by rw [c1]; rfl) (by decide) ?_
    refine v_aload_n K 0 dX8_count_40 rfl rfl ?_
    refine v_geti K ff_X8_82 (by decide) rfl rfl dX8_count_41 ?_
    exact v_ri K E dX8_count_44 ⟨rfl, rfl, Or.inr (Or.inl ⟨c1, rfl⟩)⟩
  · refine v_tableIn K 45 (off := 44) hw dX8_count_1 (by omega) (by rw [c1]; rfl) (by decide) ?_
    refine v_aload_n K 0 dX8_count_45 rfl rfl ?_
    refine v_cVi K (c_X8_cardsInDecks hM) rfl fc_X8_181 wm_X8_cardsInDecks ws_X8_cardsInDecks (by decide) 8 rfl (by decide) rfl rfl (by decide) (Nat.le_of_ble_eq_true rfl) dX8_count_46 (fun r46 M46 L46 h46 => ?_)
    obtain ⟨hm46, hl46, hr46⟩ := h46
    subst M46 L46
    exact v_ri K E dX8_count_49 ⟨rfl, rfl, Or.inr (Or.inr (Or.inl ⟨c1, hr46⟩))⟩
  · refine v_tableIn K 50 (off := 49) hw dX8_count_1 (by omega) (by rw [c1]; rfl) (by decide) ?_
    refine v_aload_n K 0 dX8_count_50 rfl rfl ?_
    refine v_geti K ff_X8_60 (by decide) rfl rfl dX8_count_51 ?_
    exact v_ri K E dX8_count_54 ⟨rfl, rfl, Or.inr (Or.inr (Or.inr (Or.inl ⟨c1, rfl⟩)))⟩
set_option maxRecDepth 100000 in
set_option maxHeartbeats 4000000 in
theorem c_X0_isPlayedAhead {l : Launch} {D : va_G} {Z : ZC} {Q : Nat → Nat} {MI ML : ZM} (hM : cOk MI) (a b : Nat) (ha : a < 12) (hb : b < 12) (a9 b9 : Int) (ha9 : a9 = a) (hb9 : b9 = b) : C_X0_isPlayedAhead l D Z Q [.ref (Q 1), .int (iI a9), .int (iI b9)] MI ML (zI fun r M L => M = MI ∧ L = ML ∧ ((r = 1 ∧ (MI 3 b < MI 3 a ∨ (MI 3 a = MI 3 b ∧ (MI 4 b < MI 4 a ∨ (MI 4 a = MI 4 b ∧ a < b))))) ∨ (r = 0 ∧ (MI 3 a < MI 3 b ∨ (MI 3 a = MI 3 b ∧ (MI 4 a < MI 4 b ∨ (MI 4 a = MI 4 b ∧ b ≤ a))))))) := by
  refine CM.of (by decide +kernel) (Nat.le_of_ble_eq_true rfl) ?_
  intro X K E _ _ _ _
  show V X (0, 0) 110 Q z_rf MI ML 0 [(0, .ref (Q 1)), (1, .int (iI a9)), (2, .int (iI b9))] []
  have ua := hM.2.2.2.1 a ha
  have ub := hM.2.2.2.1 b hb
  refine v_aload_n K 0 dX0_isPlayedAhead_0 rfl rfl ?_
  refine v_getr K ff_X0_15 (by decide) rfl rfl rfl dX0_isPlayedAhead_1 ?_
  refine v_iload_n K 1 dX0_isPlayedAhead_4 rfl rfl ?_
  refine v_iald K (a) (by decide) rfl (by omega) (by show _ < 12; omega) dX0_isPlayedAhead_5 ?_
  refine v_aload_n K 0 dX0_isPlayedAhead_6 rfl rfl ?_
  refine v_getr K ff_X0_15 (by decide) rfl rfl rfl dX0_isPlayedAhead_7 ?_
  refine v_iload_n K 2 dX0_isPlayedAhead_10 rfl rfl ?_
  refine v_iald K (b) (by decide) rfl (by omega) (by show _ < 12; omega) dX0_isPlayedAhead_11 ?_
  refine v_icmp_eq K 36 ⟨by omega, by omega⟩ ⟨by omega, by omega⟩ dX0_isPlayedAhead_12 (by decide) (fun h12 => ?_) (fun h12 => ?_)
  · refine v_aload_n K 0 dX0_isPlayedAhead_36 rfl rfl ?_
    refine v_getr K ff_X0_18 (by decide) rfl rfl rfl dX0_isPlayedAhead_37 ?_
    refine v_iload_n K 1 dX0_isPlayedAhead_40 rfl rfl ?_
    refine v_iald K (a) (by decide) rfl (by omega) (by show _ < 12; omega) dX0_isPlayedAhead_41 ?_
    refine v_aload_n K 0 dX0_isPlayedAhead_42 rfl rfl ?_
    refine v_getr K ff_X0_18 (by decide) rfl rfl rfl dX0_isPlayedAhead_43 ?_
    refine v_iload_n K 2 dX0_isPlayedAhead_46 rfl rfl ?_
    refine v_iald K (b) (by decide) rfl (by omega) (by show _ < 12; omega) dX0_isPlayedAhead_47 ?_
    refine v_icmp_eq K 72 ⟨by omega, by omega⟩ ⟨by omega, by omega⟩ dX0_isPlayedAhead_48 (by decide) (fun h48 => ?_) (fun h48 => ?_)
    · refine v_iload_n K 1 dX0_isPlayedAhead_72 rfl rfl ?_
      refine v_iload_n K 2 dX0_isPlayedAhead_73 rfl rfl ?_
      refine v_icmp_ge K 81 ⟨by omega, by omega⟩ ⟨by omega, by omega⟩ dX0_isPlayedAhead_74 (by decide) (fun h74 => ?_) (fun h74 => ?_)
      · refine v_iconst K dX0_isPlayedAhead_81 ?_
        exact v_rz K E (Or.inl rfl) dX0_isPlayedAhead_82 ⟨rfl, rfl, by omega⟩
      · refine v_iconst K dX0_isPlayedAhead_77 ?_
        refine v_goto K 82 dX0_isPlayedAhead_78 (by decide) ?_
        exact v_rz K E (Or.inr rfl) dX0_isPlayedAhead_82 ⟨rfl, rfl, by omega⟩
    · refine v_aload_n K 0 dX0_isPlayedAhead_51 rfl rfl ?_
      refine v_getr K ff_X0_18 (by decide) rfl rfl rfl dX0_isPlayedAhead_52 ?_
      refine v_iload_n K 1 dX0_isPlayedAhead_55 rfl rfl ?_
      refine v_iald K (a) (by decide) rfl (by omega) (by show _ < 12; omega) dX0_isPlayedAhead_56 ?_
      refine v_aload_n K 0 dX0_isPlayedAhead_57 rfl rfl ?_
      refine v_getr K ff_X0_18 (by decide) rfl rfl rfl dX0_isPlayedAhead_58 ?_
      refine v_iload_n K 2 dX0_isPlayedAhead_61 rfl rfl ?_
      refine v_iald K (b) (by decide) rfl (by omega) (by show _ < 12; omega) dX0_isPlayedAhead_62 ?_
      refine v_icmp_le K 70 ⟨by omega, by omega⟩ ⟨by omega, by omega⟩ dX0_isPlayedAhead_63 (by decide) (fun h63 => ?_) (fun h63 => ?_)
      · refine v_iconst K dX0_isPlayedAhead_70 ?_
        exact v_rz K E (Or.inl rfl) dX0_isPlayedAhead_71 ⟨rfl, rfl, by omega⟩
      · refine v_iconst K dX0_isPlayedAhead_66 ?_
        refine v_goto K 71 dX0_isPlayedAhead_67 (by decide) ?_
        exact v_rz K E (Or.inr rfl) dX0_isPlayedAhead_71 ⟨rfl, rfl, by omega⟩
  · refine v_aload_n K 0 dX0_isPlayedAhead_15 rfl rfl ?_
    refine v_getr K ff_X0_15 (by decide) rfl rfl rfl dX0_isPlayedAhead_16 ?_
    refine v_iload_n K 1 dX0_isPlayedAhead_19 rfl rfl ?_
    refine v_iald K (a) (by decide) rfl (by omega) (by show _ < 12; omega) dX0_isPlayedAhead_20 ?_
    refine v_aload_n K 0 dX0_isPlayedAhead_21 rfl rfl ?_
    refine v_getr K ff_X0_15 (by decide) rfl rfl rfl dX0_isPlayedAhead_22 ?_
    refine v_iload_n K 2 dX0_isPlayedAhead_25 rfl rfl ?_
    refine v_iald K (b) (by decide) rfl (by omega) (by show _ < 12; omega) dX0_isPlayedAhead_26 ?_
    refine v_icmp_le K 34 ⟨by omega, by omega⟩ ⟨by omega, by omega⟩ dX0_isPlayedAhead_27 (by decide) (fun h27 => ?_) (fun h27 => ?_)
    · refine v_iconst K dX0_isPlayedAhead_34 ?_
      exact v_rz K E (Or.inl rfl) dX0_isPlayedAhead_35 ⟨rfl, rfl, by omega⟩
    · refine v_iconst K dX0_isPlayedAhead_30 ?_
      refine v_goto K 35 dX0_isPlayedAhead_31 (by decide) ?_
      exact v_rz K E (Or.inr rfl) dX0_isPlayedAhead_35 ⟨rfl, rfl, by omega⟩
set_option maxRecDepth 100000 in
set_option maxHeartbeats 4000000 in
theorem c_X8_hasCard {l : Launch} {D : va_G} {Z : ZC} {Q : Nat → Nat} {MI ML : ZM} (hM : cOk MI) (d : Nat) (hd : d < 5) (d9 : Int) (hd9 : d9 = d) (c : Int) (hc : rg c) : C_X8_hasCard l D Z Q [.ref (Q 0), .int (iI d9), .int (iI c)] MI ML (zI fun r M L => M = MI ∧ L = ML ∧ ((r = 1 ∧ fpl (MI (7 + 2 * d)) c (MI (6 + 2 * d) 1).toNat ≠ -1) ∨ (r = 0 ∧ fpl (MI (7 + 2 * d)) c (MI (6 + 2 * d) 1).toNat = -1))) := by
  refine CM.of (by decide +kernel) (Nat.le_of_ble_eq_true rfl) ?_
  intro X K E _ _ _ _
  show V X (0, 0) 110 Q z_rf MI ML 0 [(0, .ref (Q 0)), (1, .int (iI d9)), (2, .int (iI c))] []
  have us := hM.2.2.2.2.1 d hd
  have uk := hM.2.2.2.2.2
  have u0 := hM.1
  have b0 := fpl_b (MI (7 + 2 * d)) c (MI (6 + 2 * d) 1).toNat
  refine v_aload_n K 0 dX8_hasCard_0 rfl rfl ?_
  refine v_getr K ff_X8_18 (by decide) rfl rfl rfl dX8_hasCard_1 ?_
  refine v_iload_n K 1 dX8_hasCard_4 rfl rfl ?_
  refine v_aaldD K (d) (by decide) rfl (by omega) (by show _ < 5; omega) (zr_decks (by omega)) dX8_hasCard_5 ?_
  refine v_iload_n K 2 dX8_hasCard_6 rfl rfl ?_
  refine v_cVi K (c_X2_firstPlaceOf d hd (fun k hk => by have := uk d k hd hk; exact ⟨by omega, by omega⟩) us.1 us.2 c hc) rfl fc_X8_170 wm_X2_firstPlaceOf ws_X2_firstPlaceOf (by omega) 2 (zk_dk hd) (by decide) rfl rfl (by decide) (Nat.le_of_ble_eq_true rfl) dX8_hasCard_7 (fun r7 M7 L7 h7 => ?_)
  obtain ⟨hm7, hl7, hr7⟩ := h7
  subst M7 L7
  refine v_iconst K dX8_hasCard_10 ?_
  refine v_icmp_eq K 18 ⟨by omega, by omega⟩ ⟨by omega, by omega⟩ dX8_hasCard_11 (by decide) (fun h11 => ?_) (fun h11 => ?_)
  · refine v_iconst K dX8_hasCard_18 ?_
    exact v_rz K E (Or.inl rfl) dX8_hasCard_19 ⟨rfl, rfl, by omega⟩
  · refine v_iconst K dX8_hasCard_14 ?_
    refine v_goto K 19 dX8_hasCard_15 (by decide) ?_
    exact v_rz K E (Or.inr rfl) dX8_hasCard_19 ⟨rfl, rfl, by omega⟩
