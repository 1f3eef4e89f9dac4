theorem rg9 {z : Int} (h0 : 0 ≤ z) (h1 : z ≤ 1000000) : rg z := ⟨by omega, by omega⟩
/-- what the model's memory keeps -/
def mOk (M : ZM) : Prop := (0 ≤ M 90 0 ∧ M 90 0 ≤ 12) ∧ (0 ≤ M 90 4 ∧ M 90 4 ≤ 5) ∧ (5 ≤ M 90 7 ∧ M 90 7 ≤ 40) ∧ (∀ i, i < 12 → (0 ≤ M 91 i ∧ M 91 i ≤ 2) ∧ (0 ≤ M 92 i ∧ M 92 i ≤ 5) ∧ (0 ≤ M 93 i ∧ M 93 i ≤ 9)) ∧ (∀ d, d < 5 → 0 ≤ M 94 d ∧ M 94 d ≤ 10) ∧ (∀ d k : Nat, d < 5 → (k : Int) < M 94 d → 0 ≤ M 95 (10 * d + k) ∧ M 95 (10 * d + k) < M 90 0)
set_option maxRecDepth 100000 in
set_option maxHeartbeats 4000000 in
theorem c_X9_in {l : Launch} {D : va_G} {Z : ZC} {Q : Nat → Nat} {MI ML : ZM} (v lo hi : Int) (hv : rg v) (hlo : rg lo) (hhi : rg hi) : C_X9_in l D Z Q [.int (iI v), .int (iI lo), .int (iI hi)] MI ML (zI fun r M L => M = MI ∧ L = ML ∧ ((r = 1 ∧ lo ≤ v ∧ v ≤ hi) ∨ (r = 0 ∧ (v < lo ∨ hi < v)))) := by
  refine CM.of (by decide +kernel) (Nat.le_of_ble_eq_true rfl) ?_
  intro X K E _ _ _ _
  show V X (0, 0) 110 Q z_rf MI ML 0 [(0, .int (iI v)), (1, .int (iI lo)), (2, .int (iI hi))] []
  refine v_iload_n K 0 dX9_in_0 rfl rfl ?_
  refine v_iload_n K 1 dX9_in_1 rfl rfl ?_
  refine v_icmp_lt K 14 hv hlo dX9_in_2 (by decide) (fun h2 => ?_) (fun h2 => ?_)
  · refine v_iconst K dX9_in_14 ?_
    exact v_rz K E (Or.inl rfl) dX9_in_15 ⟨rfl, rfl, by omega⟩
  · refine v_iload_n K 0 dX9_in_5 rfl rfl ?_
    refine v_iload_n K 2 dX9_in_6 rfl rfl ?_
    refine v_icmp_gt K 14 hv hhi dX9_in_7 (by decide) (fun h7 => ?_) (fun h7 => ?_)
    · refine v_iconst K dX9_in_14 ?_
      exact v_rz K E (Or.inl rfl) dX9_in_15 ⟨rfl, rfl, by omega⟩
    · refine v_iconst K dX9_in_10 ?_
      refine v_goto K 15 dX9_in_11 (by decide) ?_
      exact v_rz K E (Or.inr rfl) dX9_in_15 ⟨rfl, rfl, by omega⟩
set_option maxRecDepth 100000 in
set_option maxHeartbeats 4000000 in
theorem c_X9_isCard {l : Launch} {D : va_G} {Z : ZC} {Q : Nat → Nat} {MI ML : ZM} (hM : mOk MI) (c : Int) (hc : rg c) : C_X9_isCard l D Z Q [.ref (Q 90), .int (iI c)] MI ML (zI fun r M L => M = MI ∧ L = ML ∧ ((r = 1 ∧ 0 ≤ c ∧ c < MI 90 0) ∨ (r = 0 ∧ (c < 0 ∨ MI 90 0 ≤ c)))) := by
  refine CM.of (by decide +kernel) (Nat.le_of_ble_eq_true rfl) ?_
  intro X K E _ _ _ _
  show V X (0, 0) 110 Q z_rf MI ML 0 [(0, .ref (Q 90)), (1, .int (iI c))] []
  refine v_iload_n K 1 dX9_isCard_0 rfl rfl ?_
  refine v_iconst K dX9_isCard_1 ?_
  refine v_aload_n K 0 dX9_isCard_2 rfl rfl ?_
  have h0 := hM.1
  have h4 := hM.2.1
  refine v_geti K ff_X9_72 (by decide) rfl rfl dX9_isCard_3 ?_
  refine v_iconst K dX9_isCard_6 ?_
  refine v_isub K dX9_isCard_7 ?_
  refine v_cSi K (c_X9_in _ _ _ hc rg_0 ⟨by omega, by omega⟩) rfl fc_X9_75 wt_X9_in rfl (by decide) (Nat.le_of_ble_eq_true rfl) dX9_isCard_8 (fun r8 M8 L8 h8 => ?_)
  obtain ⟨hm8, hl8, hr⟩ := h8
  subst M8 L8
  exact v_rz K E (by omega) dX9_isCard_11 ⟨rfl, rfl, by omega⟩
set_option maxRecDepth 100000 in
set_option maxHeartbeats 4000000 in
theorem c_X9_isDeck {l : Launch} {D : va_G} {Z : ZC} {Q : Nat → Nat} {MI ML : ZM} (hM : mOk MI) (c : Int) (hc : rg c) : C_X9_isDeck l D Z Q [.ref (Q 90), .int (iI c)] MI ML (zI fun r M L => M = MI ∧ L = ML ∧ ((r = 1 ∧ 0 ≤ c ∧ c < MI 90 4) ∨ (r = 0 ∧ (c < 0 ∨ MI 90 4 ≤ c)))) := by
  refine CM.of (by decide +kernel) (Nat.le_of_ble_eq_true rfl) ?_
  intro X K E _ _ _ _
  show V X (0, 0) 110 Q z_rf MI ML 0 [(0, .ref (Q 90)), (1, .int (iI c))] []
  refine v_iload_n K 1 dX9_isDeck_0 rfl rfl ?_
  refine v_iconst K dX9_isDeck_1 ?_
  refine v_aload_n K 0 dX9_isDeck_2 rfl rfl ?_
  have h0 := hM.1
  have h4 := hM.2.1
  refine v_geti K ff_X9_79 (by decide) rfl rfl dX9_isDeck_3 ?_
  refine v_iconst K dX9_isDeck_6 ?_
  refine v_isub K dX9_isDeck_7 ?_
  refine v_cSi K (c_X9_in _ _ _ hc rg_0 ⟨by omega, by omega⟩) rfl fc_X9_75 wt_X9_in rfl (by decide) (Nat.le_of_ble_eq_true rfl) dX9_isDeck_8 (fun r8 M8 L8 h8 => ?_)
  obtain ⟨hm8, hl8, hr⟩ := h8
  subst M8 L8
  exact v_rz K E (by omega) dX9_isDeck_11 ⟨rfl, rfl, by omega⟩
set_option maxRecDepth 100000 in
set_option maxHeartbeats 4000000 in
theorem c_X9_card {l : Launch} {D : va_G} {Z : ZC} {Q : Nat → Nat} {MI ML : ZM} (hM : mOk MI) (s c p : Int) (hs : rg s) (hc : rg c) (hp : rg p) (nc : Nat) (hnc : MI 90 0 = nc) : C_X9_card l D Z Q [.ref (Q 90), .int (iI s), .int (iI c), .int (iI p)] MI ML (zI fun r M L => L = ML ∧ ((r = -2 ∧ M = MI ∧ ¬ (0 ≤ s ∧ s ≤ 2 ∧ 0 ≤ c ∧ c ≤ 5 ∧ 0 ≤ p ∧ p ≤ 9)) ∨ ((0 ≤ s ∧ s ≤ 2 ∧ 0 ≤ c ∧ c ≤ 5 ∧ 0 ≤ p ∧ p ≤ 9) ∧ ((nc = 12 ∧ r = -4 ∧ M = MI) ∨ (nc < 12 ∧ r = nc ∧ M = z_up (z_up (z_up (z_up MI 91 nc s) 92 nc c) 93 nc p) 90 0 (nc + 1)))))) := by
  refine CM.of (by decide +kernel) (Nat.le_of_ble_eq_true rfl) ?_
  intro X K E _ _ _ _
  show V X (0, 0) 110 Q z_rf MI ML 0 [(0, .ref (Q 90)), (1, .int (iI s)), (2, .int (iI c)), (3, .int (iI p))] []
  have u0 := hM.1
  have u4 := hM.2.1
  have u7 := hM.2.2.1
  have ua := hM.2.2.2.1
  have us := hM.2.2.2.2.1
  have uk := hM.2.2.2.2.2
  refine v_iload_n K 1 dX9_card_0 rfl rfl ?_
  refine v_iconst K dX9_card_1 ?_
  refine v_iconst K dX9_card_2 ?_
  refine v_cSi K (c_X9_in _ _ _ hs rg_0 ⟨by omega, by omega⟩) rfl fc_X9_75 wt_X9_in rfl (by decide) (Nat.le_of_ble_eq_true rfl) dX9_card_3 (fun r3 M3 L3 h3 => ?_)
  obtain ⟨hm3, hl3, hr3⟩ := h3
  subst M3 L3
  refine v_if_eq K 28 ⟨by omega, by omega⟩ dX9_card_6 (by decide) (fun h6 => ?_) (fun h6 => ?_)
  · refine v_bipush K dX9_card_28 (by decide) ?_
    exact v_ri K E dX9_card_30 ⟨rfl, Or.inl ⟨rfl, rfl, by omega⟩⟩
  · refine v_iload_n K 2 dX9_card_9 rfl rfl ?_
    refine v_iconst K dX9_card_10 ?_
    refine v_iconst K dX9_card_11 ?_
    refine v_cSi K (c_X9_in _ _ _ hc rg_0 ⟨by omega, by omega⟩) rfl fc_X9_75 wt_X9_in rfl (by decide) (Nat.le_of_ble_eq_true rfl) dX9_card_12 (fun r12 M12 L12 h12 => ?_)
    obtain ⟨hm12, hl12, hr12⟩ := h12
    subst M12 L12
    refine v_if_eq K 28 ⟨by omega, by omega⟩ dX9_card_15 (by decide) (fun h15 => ?_) (fun h15 => ?_)
    · refine v_bipush K dX9_card_28 (by decide) ?_
      exact v_ri K E dX9_card_30 ⟨rfl, Or.inl ⟨rfl, rfl, by omega⟩⟩
    · refine v_iload_n K 3 dX9_card_18 rfl rfl ?_
      refine v_iconst K dX9_card_19 ?_
      refine v_bipush K dX9_card_20 (by decide) ?_
      refine v_cSi K (c_X9_in _ _ _ hp rg_0 ⟨by omega, by omega⟩) rfl fc_X9_75 wt_X9_in rfl (by decide) (Nat.le_of_ble_eq_true rfl) dX9_card_22 (fun r22 M22 L22 h22 => ?_)
      obtain ⟨hm22, hl22, hr22⟩ := h22
      subst M22 L22
      refine v_if_ne K 31 ⟨by omega, by omega⟩ dX9_card_25 (by decide) (fun h25 => ?_) (fun h25 => ?_)
      · refine v_aload_n K 0 dX9_card_31 rfl rfl ?_
        refine v_geti K ff_X9_72 (by decide) rfl rfl dX9_card_32 ?_
        refine v_eqi ((nc : Int)) (by simp [z_up, hnc]) ?_
        refine v_bipush K dX9_card_35 (by decide) ?_
        refine v_icmp_ne K 43 ⟨by omega, by omega⟩ ⟨by omega, by omega⟩ dX9_card_37 (by decide) (fun h37 => ?_) (fun h37 => ?_)
        · refine v_aload_n K 0 dX9_card_43 rfl rfl ?_
          refine v_getr K ff_X9_7 (by decide) rfl rfl rfl dX9_card_44 ?_
          refine v_aload_n K 0 dX9_card_47 rfl rfl ?_
          refine v_geti K ff_X9_72 (by decide) rfl rfl dX9_card_48 ?_
          refine v_eqi ((nc : Int)) (by simp [z_up, hnc]) ?_
          refine v_iload_n K 1 dX9_card_51 rfl rfl ?_
          refine v_iast K (nc) (by decide) rfl rfl (by show _ < 12; omega) dX9_card_52 ?_
          refine v_aload_n K 0 dX9_card_53 rfl rfl ?_
          refine v_getr K ff_X9_13 (by decide) rfl rfl rfl dX9_card_54 ?_
          refine v_aload_n K 0 dX9_card_57 rfl rfl ?_
          refine v_geti K ff_X9_72 (by decide) rfl rfl dX9_card_58 ?_
          refine v_eqi ((nc : Int)) (by simp [z_up, hnc]) ?_
          refine v_iload_n K 2 dX9_card_61 rfl rfl ?_
          refine v_iast K (nc) (by decide) rfl rfl (by show _ < 12; omega) dX9_card_62 ?_
          refine v_aload_n K 0 dX9_card_63 rfl rfl ?_
          refine v_getr K ff_X9_16 (by decide) rfl rfl rfl dX9_card_64 ?_
          refine v_aload_n K 0 dX9_card_67 rfl rfl ?_
          refine v_geti K ff_X9_72 (by decide) rfl rfl dX9_card_68 ?_
          refine v_eqi ((nc : Int)) (by simp [z_up, hnc]) ?_
          refine v_iload_n K 3 dX9_card_71 rfl rfl ?_
          refine v_iast K (nc) (by decide) rfl rfl (by show _ < 12; omega) dX9_card_72 ?_
          refine v_aload_n K 0 dX9_card_73 rfl rfl ?_
          refine v_dup K dX9_card_74 rfl ?_
          refine v_geti K ff_X9_72 (by decide) rfl rfl dX9_card_75 ?_
          refine v_eqi ((nc : Int)) (by simp [z_up, hnc]) ?_
          refine v_iconst K dX9_card_78 ?_
          refine v_iadd K dX9_card_79 ?_
          refine v_puti K fp_X9_72 (by decide) rfl rfl dX9_card_80 ?_
          refine v_aload_n K 0 dX9_card_83 rfl rfl ?_
          refine v_geti K ff_X9_72 (by decide) rfl rfl dX9_card_84 ?_
          refine v_eqi ((nc : Int) + 1) (by simp [z_up]) ?_
          refine v_iconst K dX9_card_87 ?_
          refine v_isub K dX9_card_88 ?_
          exact v_ri K E dX9_card_89 ⟨rfl, Or.inr ⟨by omega, Or.inr ⟨by omega, by omega, rfl⟩⟩⟩
        · refine v_bipush K dX9_card_40 (by decide) ?_
          exact v_ri K E dX9_card_42 ⟨rfl, Or.inr ⟨by omega, Or.inl ⟨by omega, rfl, rfl⟩⟩⟩
      · refine v_bipush K dX9_card_28 (by decide) ?_
        exact v_ri K E dX9_card_30 ⟨rfl, Or.inl ⟨rfl, rfl, by omega⟩⟩
set_option maxRecDepth 100000 in
set_option maxHeartbeats 4000000 in
theorem c_X9_power {l : Launch} {D : va_G} {Z : ZC} {Q : Nat → Nat} {MI ML : ZM} (hM : mOk MI) (c v : Int) (hc : rg c) (hv : rg v) : C_X9_power l D Z Q [.ref (Q 90), .int (iI c), .int (iI v)] MI ML (zI fun r M L => L = ML ∧ ((r = -2 ∧ M = MI ∧ ¬ (0 ≤ c ∧ c < MI 90 0 ∧ 0 ≤ v ∧ v ≤ 9)) ∨ ((0 ≤ c ∧ c < MI 90 0 ∧ 0 ≤ v ∧ v ≤ 9) ∧ r = MI 93 c.toNat ∧ M = z_up MI 93 c.toNat v))) := by
  refine CM.of (by decide +kernel) (Nat.le_of_ble_eq_true rfl) ?_
  intro X K E _ _ _ _
  show V X (0, 0) 110 Q z_rf MI ML 0 [(0, .ref (Q 90)), (1, .int (iI c)), (2, .int (iI v))] []
  have u0 := hM.1
  have u4 := hM.2.1
  have u7 := hM.2.2.1
  have ua := hM.2.2.2.1
  have us := hM.2.2.2.2.1
  have uk := hM.2.2.2.2.2
  refine v_aload_n K 0 dX9_power_0 rfl rfl ?_
  refine v_iload_n K 1 dX9_power_1 rfl rfl ?_
  refine v_cVi K (c_X9_isCard hM _ hc) rfl fc_X9_82 wm_X9_isCard ws_X9_isCard (by decide) 9 rfl (by decide) rfl rfl (by decide) (Nat.le_of_ble_eq_true rfl) dX9_power_2 (fun r2 M2 L2 h2 => ?_)
  obtain ⟨hm2, hl2, hr2⟩ := h2
  subst M2 L2
  refine v_if_eq K 18 ⟨by omega, by omega⟩ dX9_power_5 (by decide) (fun h5 => ?_) (fun h5 => ?_)
  · refine v_bipush K dX9_power_18 (by decide) ?_
    exact v_ri K E dX9_power_20 ⟨rfl, Or.inl ⟨rfl, rfl, by omega⟩⟩
  · refine v_iload_n K 2 dX9_power_8 rfl rfl ?_
    refine v_iconst K dX9_power_9 ?_
    refine v_bipush K dX9_power_10 (by decide) ?_
    refine v_cSi K (c_X9_in _ _ _ hv rg_0 ⟨by omega, by omega⟩) rfl fc_X9_75 wt_X9_in rfl (by decide) (Nat.le_of_ble_eq_true rfl) dX9_power_12 (fun r12 M12 L12 h12 => ?_)
    obtain ⟨hm12, hl12, hr12⟩ := h12
    subst M12 L12
    refine v_if_ne K 21 ⟨by omega, by omega⟩ dX9_power_15 (by decide) (fun h15 => ?_) (fun h15 => ?_)
    · refine v_aload_n K 0 dX9_power_21 rfl rfl ?_
      refine v_getr K ff_X9_16 (by decide) rfl rfl rfl dX9_power_22 ?_
      refine v_iload_n K 1 dX9_power_25 rfl rfl ?_
      refine v_iald K (c.toNat) (by decide) rfl (by omega) (by show _ < 12; omega) dX9_power_26 ?_
      refine v_istore_n K (fun q9 => [(3, .int (iI q9)), (0, .ref (Q 90)), (1, .int (iI c)), (2, .int (iI v))]) dX9_power_27 rfl (by decide) (fun _ => rfl) (fun x27 hx27 => ?_)
      refine v_aload_n K 1 dX9_power_28 rfl rfl ?_
      refine v_getr K ff_X9_16 (by decide) rfl rfl rfl dX9_power_29 ?_
      refine v_iload_n K 2 dX9_power_32 rfl rfl ?_
      refine v_iload_n K 3 dX9_power_33 rfl rfl ?_
      refine v_iast K (c.toNat) (by decide) rfl (by omega) (by show _ < 12; omega) dX9_power_34 ?_
      refine v_iload_n K 0 dX9_power_35 rfl rfl ?_
      exact v_ri K E dX9_power_36 ⟨rfl, Or.inr ⟨by omega, hx27, rfl⟩⟩
    · refine v_bipush K dX9_power_18 (by decide) ?_
      exact v_ri K E dX9_power_20 ⟨rfl, Or.inl ⟨rfl, rfl, by omega⟩⟩
set_option maxRecDepth 100000 in
set_option maxHeartbeats 4000000 in
theorem c_X9_deck {l : Launch} {D : va_G} {Z : ZC} {Q : Nat → Nat} {MI ML : ZM} (hM : mOk MI) (nd : Nat) (hnd : MI 90 4 = nd) : C_X9_deck l D Z Q [.ref (Q 90)] MI ML (zI fun r M L => L = ML ∧ ((nd = 5 ∧ r = -4 ∧ M = MI) ∨ (nd < 5 ∧ r = nd ∧ M = z_up MI 90 4 (nd + 1)))) := by
  refine CM.of (by decide +kernel) (Nat.le_of_ble_eq_true rfl) ?_
  intro X K E _ _ _ _
  show V X (0, 0) 110 Q z_rf MI ML 0 [(0, .ref (Q 90))] []
  have u0 := hM.1
  have u4 := hM.2.1
  have u7 := hM.2.2.1
  have ua := hM.2.2.2.1
  have us := hM.2.2.2.2.1
  have uk := hM.2.2.2.2.2
  refine v_aload_n K 0 dX9_deck_0 rfl rfl ?_
  refine v_geti K ff_X9_79 (by decide) rfl rfl dX9_deck_1 ?_
  refine v_eqi ((nd : Int)) (by simp [z_up, hnd]) ?_
  refine v_iconst K dX9_deck_4 ?_
  refine v_icmp_ne K 11 ⟨by omega, by omega⟩ ⟨by omega, by omega⟩ dX9_deck_5 (by decide) (fun h5 => ?_) (fun h5 => ?_)
  · refine v_aload_n K 0 dX9_deck_11 rfl rfl ?_
    refine v_dup K dX9_deck_12 rfl ?_
    refine v_geti K ff_X9_79 (by decide) rfl rfl dX9_deck_13 ?_
    refine v_eqi ((nd : Int)) (by simp [z_up, hnd]) ?_
    refine v_iconst K dX9_deck_16 ?_
    refine v_iadd K dX9_deck_17 ?_
    refine v_puti K fp_X9_79 (by decide) rfl rfl dX9_deck_18 ?_
    refine v_aload_n K 0 dX9_deck_21 rfl rfl ?_
    refine v_geti K ff_X9_79 (by decide) rfl rfl dX9_deck_22 ?_
    refine v_eqi ((nd : Int) + 1) (by simp [z_up]) ?_
    refine v_iconst K dX9_deck_25 ?_
    refine v_isub K dX9_deck_26 ?_
    exact v_ri K E dX9_deck_27 ⟨rfl, Or.inr ⟨by omega, by omega, rfl⟩⟩
  · refine v_bipush K dX9_deck_8 (by decide) ?_
    exact v_ri K E dX9_deck_10 ⟨rfl, Or.inl ⟨by omega, rfl, rfl⟩⟩
set_option maxRecDepth 100000 in
set_option maxHeartbeats 4000000 in
theorem c_X9_add {l : Launch} {D : va_G} {Z : ZC} {Q : Nat → Nat} {MI ML : ZM} (hM : mOk MI) (d c : Int) (hd : rg d) (hc : rg c) : C_X9_add l D Z Q [.ref (Q 90), .int (iI d), .int (iI c)] MI ML (zI fun r M L => L = ML ∧ ((r = -2 ∧ M = MI ∧ ¬ (0 ≤ d ∧ d < MI 90 4 ∧ 0 ≤ c ∧ c < MI 90 0)) ∨ ((0 ≤ d ∧ d < MI 90 4 ∧ 0 ≤ c ∧ c < MI 90 0) ∧ ((MI 94 d.toNat = 10 ∧ r = -4 ∧ M = MI) ∨ (MI 94 d.toNat < 10 ∧ r = MI 94 d.toNat + 1 ∧ M = z_up (z_up MI 95 (10 * d.toNat + (MI 94 d.toNat).toNat) c) 94 d.toNat (MI 94 d.toNat + 1)))))) := by
  refine CM.of (by decide +kernel) (Nat.le_of_ble_eq_true rfl) ?_
  intro X K E _ _ _ _
  show V X (0, 0) 110 Q z_rf MI ML 0 [(0, .ref (Q 90)), (1, .int (iI d)), (2, .int (iI c))] []
  have u0 := hM.1
  have u4 := hM.2.1
  have u7 := hM.2.2.1
  have ua := hM.2.2.2.1
  have us := hM.2.2.2.2.1
  have uk := hM.2.2.2.2.2
  refine v_aload_n K 0 dX9_add_0 rfl rfl ?_
  refine v_iload_n K 1 dX9_add_1 rfl rfl ?_
  refine v_cVi K (c_X9_isDeck hM _ hd) rfl fc_X9_86 wm_X9_isDeck ws_X9_isDeck (by decide) 9 rfl (by decide) rfl rfl (by decide) (Nat.le_of_ble_eq_true rfl) dX9_add_2 (fun r2 M2 L2 h2 => ?_)
  obtain ⟨hm2, hl2, hr2⟩ := h2
  subst M2 L2
  refine v_if_eq K 16 ⟨by omega, by omega⟩ dX9_add_5 (by decide) (fun h5 => ?_) (fun h5 => ?_)
  · refine v_bipush K dX9_add_16 (by decide) ?_
    exact v_ri K E dX9_add_18 ⟨rfl, Or.inl ⟨rfl, rfl, by omega⟩⟩
  · refine v_aload_n K 0 dX9_add_8 rfl rfl ?_
    refine v_iload_n K 2 dX9_add_9 rfl rfl ?_
    refine v_cVi K (c_X9_isCard hM _ hc) rfl fc_X9_82 wm_X9_isCard ws_X9_isCard (by decide) 9 rfl (by decide) rfl rfl (by decide) (Nat.le_of_ble_eq_true rfl) dX9_add_10 (fun r10 M10 L10 h10 => ?_)
    obtain ⟨hm10, hl10, hr10⟩ := h10
    subst M10 L10
    refine v_if_ne K 19 ⟨by omega, by omega⟩ dX9_add_13 (by decide) (fun h13 => ?_) (fun h13 => ?_)
    · refine v_aload_n K 0 dX9_add_19 rfl rfl ?_
      refine v_getr K ff_X9_19 (by decide) rfl rfl rfl dX9_add_20 ?_
      refine v_iload_n K 1 dX9_add_23 rfl rfl ?_
      refine v_iald K (d.toNat) (by decide) rfl (by omega) (by show _ < 5; omega) dX9_add_24 ?_
      have w := us d.toNat (by omega)
      refine v_bipush K dX9_add_25 (by decide) ?_
      refine v_icmp_ne K 33 ⟨by omega, by omega⟩ ⟨by omega, by omega⟩ dX9_add_27 (by decide) (fun h27 => ?_) (fun h27 => ?_)
      · refine v_aload_n K 0 dX9_add_33 rfl rfl ?_
        refine v_getr K ff_X9_22 (by decide) rfl rfl rfl dX9_add_34 ?_
        refine v_bipush K dX9_add_37 (by decide) ?_
        refine v_iload_n K 1 dX9_add_39 rfl rfl ?_
        refine v_imul K dX9_add_40 ?_
        refine v_aload_n K 0 dX9_add_41 rfl rfl ?_
        refine v_getr K ff_X9_19 (by decide) rfl rfl rfl dX9_add_42 ?_
        refine v_iload_n K 1 dX9_add_45 rfl rfl ?_
        refine v_iald K (d.toNat) (by decide) rfl (by omega) (by show _ < 5; omega) dX9_add_46 ?_
        refine v_iadd K dX9_add_47 ?_
        refine v_iload_n K 2 dX9_add_48 rfl rfl ?_
        refine v_iast K (10 * d.toNat + (MI 94 d.toNat).toNat) (by decide) rfl (by omega) (by show _ < 50; omega) dX9_add_49 ?_
        refine v_aload_n K 0 dX9_add_50 rfl rfl ?_
        refine v_getr K ff_X9_19 (by decide) rfl rfl rfl dX9_add_51 ?_
        refine v_iload_n K 1 dX9_add_54 rfl rfl ?_
        refine v_dup2_11 K dX9_add_55 rfl rfl ?_
        refine v_iald K (d.toNat) (by decide) rfl (by omega) (by show _ < 5; omega) dX9_add_56 ?_
        refine v_eqi (MI 94 d.toNat) (by simp [z_up]) ?_
        refine v_iconst K dX9_add_57 ?_
        refine v_iadd K dX9_add_58 ?_
        refine v_iast K (d.toNat) (by decide) rfl (by omega) (by show _ < 5; omega) dX9_add_59 ?_
        refine v_aload_n K 0 dX9_add_60 rfl rfl ?_
        refine v_getr K ff_X9_19 (by decide) rfl rfl rfl dX9_add_61 ?_
        refine v_iload_n K 1 dX9_add_64 rfl rfl ?_
        refine v_iald K (d.toNat) (by decide) rfl (by omega) (by show _ < 5; omega) dX9_add_65 ?_
        refine v_eqi (MI 94 d.toNat + 1) (by simp [z_up]) ?_
        exact v_ri K E dX9_add_66 ⟨rfl, Or.inr ⟨by omega, Or.inr ⟨by omega, rfl, rfl⟩⟩⟩
      · refine v_bipush K dX9_add_30 (by decide) ?_
        exact v_ri K E dX9_add_32 ⟨rfl, Or.inr ⟨by omega, Or.inl ⟨by omega, rfl, rfl⟩⟩⟩
    · refine v_bipush K dX9_add_16 (by decide) ?_
      exact v_ri K E dX9_add_18 ⟨rfl, Or.inl ⟨rfl, rfl, by omega⟩⟩
set_option maxRecDepth 100000 in
set_option maxHeartbeats 4000000 in
theorem c_X9_isPlace {l : Launch} {D : va_G} {Z : ZC} {Q : Nat → Nat} {MI ML : ZM} (hM : mOk MI) (d k : Int) (hd : rg d) (hk : rg k) : C_X9_isPlace l D Z Q [.ref (Q 90), .int (iI d), .int (iI k)] MI ML (zI fun r M L => M = MI ∧ L = ML ∧ ((r = 1 ∧ 0 ≤ d ∧ d < MI 90 4 ∧ 0 ≤ k ∧ k < MI 94 d.toNat) ∨ (r = 0 ∧ (d < 0 ∨ MI 90 4 ≤ d ∨ k < 0 ∨ MI 94 d.toNat ≤ k)))) := by
  refine CM.of (by decide +kernel) (Nat.le_of_ble_eq_true rfl) ?_
  intro X K E _ _ _ _
  show V X (0, 0) 110 Q z_rf MI ML 0 [(0, .ref (Q 90)), (1, .int (iI d)), (2, .int (iI k))] []
  have u0 := hM.1
  have u4 := hM.2.1
  have u7 := hM.2.2.1
  have ua := hM.2.2.2.1
  have us := hM.2.2.2.2.1
  have uk := hM.2.2.2.2.2
  refine v_aload_n K 0 dX9_isPlace_0 rfl rfl ?_
  refine v_iload_n K 1 dX9_isPlace_1 rfl rfl ?_
  refine v_cVi K (c_X9_isDeck hM _ hd) rfl fc_X9_86 wm_X9_isDeck ws_X9_isDeck (by decide) 9 rfl (by decide) rfl rfl (by decide) (Nat.le_of_ble_eq_true rfl) dX9_isPlace_2 (fun r2 M2 L2 h2 => ?_)
  obtain ⟨hm2, hl2, hr2⟩ := h2
  subst M2 L2
  refine v_if_eq K 28 ⟨by omega, by omega⟩ dX9_isPlace_5 (by decide) (fun h5 => ?_) (fun h5 => ?_)
  · refine v_iconst K dX9_isPlace_28 ?_
    exact v_rz K E (Or.inl rfl) dX9_isPlace_29 ⟨rfl, rfl, by omega⟩
  · refine v_iload_n K 2 dX9_isPlace_8 rfl rfl ?_
    refine v_iconst K dX9_isPlace_9 ?_
    refine v_aload_n K 0 dX9_isPlace_10 rfl rfl ?_
    refine v_getr K ff_X9_19 (by decide) rfl rfl rfl dX9_isPlace_11 ?_
    refine v_iload_n K 1 dX9_isPlace_14 rfl rfl ?_
    refine v_iald K (d.toNat) (by decide) rfl (by omega) (by show _ < 5; omega) dX9_isPlace_15 ?_
    have w := us d.toNat (by omega)
    refine v_iconst K dX9_isPlace_16 ?_
    refine v_isub K dX9_isPlace_17 ?_
    refine v_cSi K (c_X9_in _ _ _ hk rg_0 ⟨by omega, by omega⟩) rfl fc_X9_75 wt_X9_in rfl (by decide) (Nat.le_of_ble_eq_true rfl) dX9_isPlace_18 (fun r18 M18 L18 h18 => ?_)
    obtain ⟨hm18, hl18, hr18⟩ := h18
    subst M18 L18
    refine v_if_eq K 28 ⟨by omega, by omega⟩ dX9_isPlace_21 (by decide) (fun h21 => ?_) (fun h21 => ?_)
    · refine v_iconst K dX9_isPlace_28 ?_
      exact v_rz K E (Or.inl rfl) dX9_isPlace_29 ⟨rfl, rfl, by omega⟩
    · refine v_iconst K dX9_isPlace_24 ?_
      refine v_goto K 29 dX9_isPlace_25 (by decide) ?_
      exact v_rz K E (Or.inr rfl) dX9_isPlace_29 ⟨rfl, rfl, by omega⟩
/-- the row of deck d without its place p, the shift done below place k -/
def dropK (M : ZM) (d p k : Nat) : ZM := fun a b => if a = 94 ∧ b = d then M 94 d - 1 else if a = 95 ∧ 10 * d + p ≤ b ∧ b < 10 * d + k then M 95 (b + 1) else M a b
theorem dropK_0 (M : ZM) (d p : Nat) : z_up M 94 d (M 94 d - 1) = dropK M d p p := by
  funext a b
  simp only [z_up, dropK]
  by_cases h : a = 94 ∧ b = d
  · rw [if_pos h, if_pos h]
  · rw [if_neg h, if_neg h, if_neg (by omega)]
theorem dropK_s {M : ZM} {d p k : Nat} (hp : p ≤ k) : z_up (dropK M d p k) 95 (10 * d + k) (M 95 (10 * d + k + 1)) = dropK M d p (k + 1) := by
  funext a b
  simp only [z_up, dropK]
  by_cases h1 : a = 95 ∧ b = 10 * d + k
  · obtain ⟨rfl, rfl⟩ := h1
    rw [if_pos ⟨rfl, rfl⟩, if_neg (by omega), if_pos (by omega)]
  · rw [if_neg h1]
    by_cases h : a = 94 ∧ b = d
    · rw [if_pos h, if_pos h]
    · rw [if_neg h, if_neg h]
      by_cases h2 : a = 95 ∧ 10 * d + p ≤ b ∧ b < 10 * d + k
      · rw [if_pos h2, if_pos (by omega)]
      · rw [if_neg h2, if_neg (by omega)]
set_option maxRecDepth 100000 in
set_option maxHeartbeats 4000000 in
theorem l_X9_dropAt {X : VX} {Q : Nat → Nat} {MI ML : ZM} (K : VK X cX9_dropAt RX9 4 none 0 0 0 0) (d p : Nat) (hd : d < 5) (h0 : (p : Int) < MI 94 d) (h1 : MI 94 d ≤ 10) (E : VE X 0 0 110 Q (zq Q (zV fun M L => L = ML ∧ M = dropK MI d p ((MI 94 d).toNat - 1)))) : ∀ (n k : Nat), p ≤ k → k ≤ (MI 94 d).toNat - 1 → (MI 94 d).toNat - 1 < k + n → V X (0, 0) 110 Q z_rf (dropK MI d p k) ML 12 [(3, .int (iI (k : Int))), (0, .ref (Q 90)), (1, .int (iI (d : Int))), (2, .int (iI (p : Int)))] [] := by
  intro n
  induction n with
  | zero => intro k hp hk hn; exact absurd hn (by omega)
  | succ n ih =>
    intro k hp hk hn
    refine v_iload_n K 0 dX9_dropAt_12 rfl rfl ?_
    refine v_aload_n K 1 dX9_dropAt_13 rfl rfl ?_
    refine v_getr K ff_X9_19 (by decide) rfl rfl rfl dX9_dropAt_14 ?_
    refine v_iload_n K 2 dX9_dropAt_17 rfl rfl ?_
    refine v_iald K (d) (by decide) rfl rfl (by show _ < 5; omega) dX9_dropAt_18 ?_
    refine v_eqi (MI 94 d - 1) (by simp [dropK]) ?_
    refine v_icmp_ge K 52 ⟨by omega, by omega⟩ ⟨by omega, by omega⟩ dX9_dropAt_19 (by decide) (fun h19 => ?_) (fun h19 => ?_)
    · obtain rfl : k = (MI 94 d).toNat - 1 := by omega
      exact v_rv K E dX9_dropAt_52 ⟨rfl, rfl⟩
    · refine v_aload_n K 1 dX9_dropAt_22 rfl rfl ?_
      refine v_getr K ff_X9_22 (by decide) rfl rfl rfl dX9_dropAt_23 ?_
      refine v_bipush K dX9_dropAt_26 (by decide) ?_
      refine v_iload_n K 2 dX9_dropAt_28 rfl rfl ?_
      refine v_imul K dX9_dropAt_29 ?_
      refine v_iload_n K 0 dX9_dropAt_30 rfl rfl ?_
      refine v_iadd K dX9_dropAt_31 ?_
      refine v_aload_n K 1 dX9_dropAt_32 rfl rfl ?_
      refine v_getr K ff_X9_22 (by decide) rfl rfl rfl dX9_dropAt_33 ?_
      refine v_bipush K dX9_dropAt_36 (by decide) ?_
      refine v_iload_n K 2 dX9_dropAt_38 rfl rfl ?_
      refine v_imul K dX9_dropAt_39 ?_
      refine v_iload_n K 0 dX9_dropAt_40 rfl rfl ?_
      refine v_iadd K dX9_dropAt_41 ?_
      refine v_iconst K dX9_dropAt_42 ?_
      refine v_iadd K dX9_dropAt_43 ?_
      refine v_iald K (10 * d + k + 1) (by decide) rfl (by omega) (by show _ < 50; omega) dX9_dropAt_44 ?_
      refine v_eqi (MI 95 (10 * d + k + 1)) (by simp [dropK]; omega) ?_
      refine v_iast K (10 * d + k) (by decide) rfl (by omega) (by show _ < 50; omega) dX9_dropAt_45 ?_
      refine v_iinc K 0 (fun q9 => [(3, .int (iI q9)), (0, .ref (Q 90)), (1, .int (iI (d : Int))), (2, .int (iI (p : Int)))]) dX9_dropAt_46 rfl (by decide) (fun _ => rfl) (fun y hy => ?_)
      refine v_goto K 12 dX9_dropAt_49 (by decide) ?_
      obtain rfl : y = ((k + 1 : Nat) : Int) := by omega
      refine v_eqM (dropK_s hp) ?_
      exact ih (k + 1) (by omega) (by omega) (by omega)
set_option maxRecDepth 100000 in
set_option maxHeartbeats 4000000 in
theorem c_X9_dropAt {l : Launch} {D : va_G} {Z : ZC} {Q : Nat → Nat} {MI ML : ZM} (d p : Nat) (hd : d < 5) (h0 : (p : Int) < MI 94 d) (h1 : MI 94 d ≤ 10) (d9 p9 : Int) (hd9 : d9 = d) (hp9 : p9 = p) : C_X9_dropAt l D Z Q [.ref (Q 90), .int (iI d9), .int (iI p9)] MI ML (zV fun M L => L = ML ∧ M = dropK MI d p ((MI 94 d).toNat - 1)) := by
  subst hd9
  subst hp9
  refine CM.of (by decide +kernel) (Nat.le_of_ble_eq_true rfl) ?_
  intro X K E _ _ _ _
  show V X (0, 0) 110 Q z_rf MI ML 0 [(0, .ref (Q 90)), (1, .int (iI (d : Int))), (2, .int (iI (p : Int)))] []
  refine v_aload_n K 0 dX9_dropAt_0 rfl rfl ?_
  refine v_getr K ff_X9_19 (by decide) rfl rfl rfl dX9_dropAt_1 ?_
  refine v_iload_n K 1 dX9_dropAt_4 rfl rfl ?_
  refine v_dup2_11 K dX9_dropAt_5 rfl rfl ?_
  refine v_iald K (d) (by decide) rfl rfl (by show _ < 5; omega) dX9_dropAt_6 ?_
  refine v_iconst K dX9_dropAt_7 ?_
  refine v_isub K dX9_dropAt_8 ?_
  refine v_iast K (d) (by decide) rfl rfl (by show _ < 5; omega) dX9_dropAt_9 ?_
  refine v_eqM (dropK_0 MI d p) ?_
  refine v_iload_n K 2 dX9_dropAt_10 rfl rfl ?_
  refine v_istore_n K (fun q9 => [(3, .int (iI q9)), (0, .ref (Q 90)), (1, .int (iI (d : Int))), (2, .int (iI (p : Int)))]) dX9_dropAt_11 rfl (by decide) (fun _ => rfl) (fun y hy => ?_)
  subst hy
  exact l_X9_dropAt K d p hd h0 h1 E 11 p (Nat.le_refl _) (by omega) (by omega)
set_option maxRecDepth 100000 in
set_option maxHeartbeats 4000000 in
theorem c_X9_drop {l : Launch} {D : va_G} {Z : ZC} {Q : Nat → Nat} {MI ML : ZM} (hM : mOk MI) (d k : Int) (hd : rg d) (hk : rg k) : C_X9_drop l D Z Q [.ref (Q 90), .int (iI d), .int (iI k)] MI ML (zI fun r M L => L = ML ∧ ((r = -2 ∧ M = MI ∧ ¬ (0 ≤ d ∧ d < MI 90 4 ∧ 0 ≤ k ∧ k < MI 94 d.toNat)) ∨ ((0 ≤ d ∧ d < MI 90 4 ∧ 0 ≤ k ∧ k < MI 94 d.toNat) ∧ r = MI 95 (10 * d.toNat + k.toNat) ∧ M = dropK MI d.toNat k.toNat ((MI 94 d.toNat).toNat - 1)))) := by
  refine CM.of (by decide +kernel) (Nat.le_of_ble_eq_true rfl) ?_
  intro X K E _ _ _ _
  show V X (0, 0) 110 Q z_rf MI ML 0 [(0, .ref (Q 90)), (1, .int (iI d)), (2, .int (iI k))] []
  have u0 := hM.1
  have u4 := hM.2.1
  have u7 := hM.2.2.1
  have ua := hM.2.2.2.1
  have us := hM.2.2.2.2.1
  have uk := hM.2.2.2.2.2
  refine v_aload_n K 0 dX9_drop_0 rfl rfl ?_
  refine v_iload_n K 1 dX9_drop_1 rfl rfl ?_
  refine v_iload_n K 2 dX9_drop_2 rfl rfl ?_
  refine v_cVi K (c_X9_isPlace hM _ _ hd hk) rfl fc_X9_89 wm_X9_isPlace ws_X9_isPlace (by decide) 9 rfl (by decide) rfl rfl (by decide) (Nat.le_of_ble_eq_true rfl) dX9_drop_3 (fun r3 M3 L3 h3 => ?_)
  obtain ⟨hm3, hl3, hr3⟩ := h3
  subst M3 L3
  refine v_if_ne K 12 ⟨by omega, by omega⟩ dX9_drop_6 (by decide) (fun h6 => ?_) (fun h6 => ?_)
  · have w := us d.toNat (by omega)
    refine v_aload_n K 0 dX9_drop_12 rfl rfl ?_
    refine v_getr K ff_X9_22 (by decide) rfl rfl rfl dX9_drop_13 ?_
    refine v_bipush K dX9_drop_16 (by decide) ?_
    refine v_iload_n K 1 dX9_drop_18 rfl rfl ?_
    refine v_imul K dX9_drop_19 ?_
    refine v_iload_n K 2 dX9_drop_20 rfl rfl ?_
    refine v_iadd K dX9_drop_21 ?_
    refine v_iald K (10 * d.toNat + k.toNat) (by decide) rfl (by omega) (by show _ < 50; omega) dX9_drop_22 ?_
    refine v_istore_n K (fun q9 => [(3, .int (iI q9)), (0, .ref (Q 90)), (1, .int (iI d)), (2, .int (iI k))]) dX9_drop_23 rfl (by decide) (fun _ => rfl) (fun x23 hx23 => ?_)
    refine v_aload_n K 1 dX9_drop_24 rfl rfl ?_
    refine v_iload_n K 2 dX9_drop_25 rfl rfl ?_
    refine v_iload_n K 3 dX9_drop_26 rfl rfl ?_
    refine v_cVv K (c_X9_dropAt d.toNat k.toNat (by omega) (by omega) (by omega) _ _ (by omega) (by omega)) rfl fc_X9_93 wm_X9_dropAt ws_X9_dropAt (by decide) 9 rfl (by decide) rfl rfl (by decide) (Nat.le_of_ble_eq_true rfl) dX9_drop_27 (fun M27 L27 h27 => ?_)
    obtain ⟨hl27, hm27⟩ := h27
    subst M27 L27
    refine v_iload_n K 0 dX9_drop_30 rfl rfl ?_
    exact v_ri K E dX9_drop_31 ⟨rfl, Or.inr ⟨by omega, hx23, rfl⟩⟩
  · refine v_bipush K dX9_drop_9 (by decide) ?_
    exact v_ri K E dX9_drop_11 ⟨rfl, Or.inl ⟨rfl, rfl, by omega⟩⟩
set_option maxRecDepth 100000 in
set_option maxHeartbeats 4000000 in
theorem c_X9_swap {l : Launch} {D : va_G} {Z : ZC} {Q : Nat → Nat} {MI ML : ZM} (hM : mOk MI) (d a b : Int) (hd : rg d) (ha : rg a) (hb : rg b) : C_X9_swap l D Z Q [.ref (Q 90), .int (iI d), .int (iI a), .int (iI b)] MI ML (zI fun r M L => L = ML ∧ ((r = -2 ∧ M = MI ∧ ¬ (0 ≤ d ∧ d < MI 90 4 ∧ 0 ≤ a ∧ a < MI 94 d.toNat ∧ 0 ≤ b ∧ b < MI 94 d.toNat)) ∨ ((0 ≤ d ∧ d < MI 90 4 ∧ 0 ≤ a ∧ a < MI 94 d.toNat ∧ 0 ≤ b ∧ b < MI 94 d.toNat) ∧ r = 1 ∧ M = z_up (z_up MI 95 (10 * d.toNat + a.toNat) (MI 95 (10 * d.toNat + b.toNat))) 95 (10 * d.toNat + b.toNat) (MI 95 (10 * d.toNat + a.toNat))))) := by
  refine CM.of (by decide +kernel) (Nat.le_of_ble_eq_true rfl) ?_
  intro X K E _ _ _ _
  show V X (0, 0) 110 Q z_rf MI ML 0 [(0, .ref (Q 90)), (1, .int (iI d)), (2, .int (iI a)), (3, .int (iI b))] []
  have u0 := hM.1
  have u4 := hM.2.1
  have u7 := hM.2.2.1
  have ua := hM.2.2.2.1
  have us := hM.2.2.2.2.1
  have uk := hM.2.2.2.2.2
  refine v_aload_n K 0 dX9_swap_0 rfl rfl ?_
  refine v_iload_n K 1 dX9_swap_1 rfl rfl ?_
  refine v_iload_n K 2 dX9_swap_2 rfl rfl ?_
  refine v_cVi K (c_X9_isPlace hM _ _ hd ha) rfl fc_X9_89 wm_X9_isPlace ws_X9_isPlace (by decide) 9 rfl (by decide) rfl rfl (by decide) (Nat.le_of_ble_eq_true rfl) dX9_swap_3 (fun r3 M3 L3 h3 => ?_)
  obtain ⟨hm3, hl3, hr3⟩ := h3
  subst M3 L3
  refine v_if_eq K 18 ⟨by omega, by omega⟩ dX9_swap_6 (by decide) (fun h6 => ?_) (fun h6 => ?_)
  · refine v_bipush K dX9_swap_18 (by decide) ?_
    exact v_ri K E dX9_swap_20 ⟨rfl, Or.inl ⟨rfl, rfl, by omega⟩⟩
  · refine v_aload_n K 0 dX9_swap_9 rfl rfl ?_
    refine v_iload_n K 1 dX9_swap_10 rfl rfl ?_
    refine v_iload_n K 3 dX9_swap_11 rfl rfl ?_
    refine v_cVi K (c_X9_isPlace hM _ _ hd hb) rfl fc_X9_89 wm_X9_isPlace ws_X9_isPlace (by decide) 9 rfl (by decide) rfl rfl (by decide) (Nat.le_of_ble_eq_true rfl) dX9_swap_12 (fun r12 M12 L12 h12 => ?_)
    obtain ⟨hm12, hl12, hr12⟩ := h12
    subst M12 L12
    refine v_if_ne K 21 ⟨by omega, by omega⟩ dX9_swap_15 (by decide) (fun h15 => ?_) (fun h15 => ?_)
    · have w := us d.toNat (by omega)
      refine v_aload_n K 0 dX9_swap_21 rfl rfl ?_
      refine v_getr K ff_X9_22 (by decide) rfl rfl rfl dX9_swap_22 ?_
      refine v_bipush K dX9_swap_25 (by decide) ?_
      refine v_iload_n K 1 dX9_swap_27 rfl rfl ?_
      refine v_imul K dX9_swap_28 ?_
      refine v_iload_n K 2 dX9_swap_29 rfl rfl ?_
      refine v_iadd K dX9_swap_30 ?_
      refine v_iald K (10 * d.toNat + a.toNat) (by decide) rfl (by omega) (by show _ < 50; omega) dX9_swap_31 ?_
      refine v_istore K (fun q9 => [(4, .int (iI q9)), (0, .ref (Q 90)), (1, .int (iI d)), (2, .int (iI a)), (3, .int (iI b))]) dX9_swap_32 (by decide) (fun _ => rfl) (fun x32 hx32 => ?_)
      refine v_aload_n K 1 dX9_swap_34 rfl rfl ?_
      refine v_getr K ff_X9_22 (by decide) rfl rfl rfl dX9_swap_35 ?_
      refine v_bipush K dX9_swap_38 (by decide) ?_
      refine v_iload_n K 2 dX9_swap_40 rfl rfl ?_
      refine v_imul K dX9_swap_41 ?_
      refine v_iload_n K 3 dX9_swap_42 rfl rfl ?_
      refine v_iadd K dX9_swap_43 ?_
      refine v_aload_n K 1 dX9_swap_44 rfl rfl ?_
      refine v_getr K ff_X9_22 (by decide) rfl rfl rfl dX9_swap_45 ?_
      refine v_bipush K dX9_swap_48 (by decide) ?_
      refine v_iload_n K 2 dX9_swap_50 rfl rfl ?_
      refine v_imul K dX9_swap_51 ?_
      refine v_iload_n K 4 dX9_swap_52 rfl rfl ?_
      refine v_iadd K dX9_swap_53 ?_
      refine v_iald K (10 * d.toNat + b.toNat) (by decide) rfl (by omega) (by show _ < 50; omega) dX9_swap_54 ?_
      refine v_iast K (10 * d.toNat + a.toNat) (by decide) rfl (by omega) (by show _ < 50; omega) dX9_swap_55 ?_
      refine v_aload_n K 1 dX9_swap_56 rfl rfl ?_
      refine v_getr K ff_X9_22 (by decide) rfl rfl rfl dX9_swap_57 ?_
      refine v_bipush K dX9_swap_60 (by decide) ?_
      refine v_iload_n K 2 dX9_swap_62 rfl rfl ?_
      refine v_imul K dX9_swap_63 ?_
      refine v_iload_n K 4 dX9_swap_64 rfl rfl ?_
      refine v_iadd K dX9_swap_65 ?_
      refine v_iload K 0 dX9_swap_66 rfl ?_
      refine v_iast K (10 * d.toNat + b.toNat) (by decide) rfl (by omega) (by show _ < 50; omega) dX9_swap_68 ?_
      refine v_iconst K dX9_swap_69 ?_
      exact v_ri K E dX9_swap_70 ⟨rfl, Or.inr ⟨by omega, rfl, by rw [hx32]⟩⟩
    · refine v_bipush K dX9_swap_18 (by decide) ?_
      exact v_ri K E dX9_swap_20 ⟨rfl, Or.inl ⟨rfl, rfl, by omega⟩⟩
set_option maxRecDepth 100000 in
set_option maxHeartbeats 4000000 in
theorem c_X9_at {l : Launch} {D : va_G} {Z : ZC} {Q : Nat → Nat} {MI ML : ZM} (hM : mOk MI) (d k : Int) (hd : rg d) (hk : rg k) : C_X9_at l D Z Q [.ref (Q 90), .int (iI d), .int (iI k)] MI ML (zI fun r M L => L = ML ∧ M = MI ∧ ((r = -2 ∧ ¬ (0 ≤ d ∧ d < MI 90 4 ∧ 0 ≤ k)) ∨ ((0 ≤ d ∧ d < MI 90 4 ∧ 0 ≤ k) ∧ ((k < MI 94 d.toNat ∧ r = MI 95 (10 * d.toNat + k.toNat)) ∨ (MI 94 d.toNat ≤ k ∧ r = -1))))) := by
  refine CM.of (by decide +kernel) (Nat.le_of_ble_eq_true rfl) ?_
  intro X K E _ _ _ _
  show V X (0, 0) 110 Q z_rf MI ML 0 [(0, .ref (Q 90)), (1, .int (iI d)), (2, .int (iI k))] []
  have u0 := hM.1
  have u4 := hM.2.1
  have u7 := hM.2.2.1
  have ua := hM.2.2.2.1
  have us := hM.2.2.2.2.1
  have uk := hM.2.2.2.2.2
  refine v_aload_n K 0 dX9_at_0 rfl rfl ?_
  refine v_iload_n K 1 dX9_at_1 rfl rfl ?_
  refine v_cVi K (c_X9_isDeck hM _ hd) rfl fc_X9_86 wm_X9_isDeck ws_X9_isDeck (by decide) 9 rfl (by decide) rfl rfl (by decide) (Nat.le_of_ble_eq_true rfl) dX9_at_2 (fun r2 M2 L2 h2 => ?_)
  obtain ⟨hm2, hl2, hr2⟩ := h2
  subst M2 L2
  refine v_if_eq K 12 ⟨by omega, by omega⟩ dX9_at_5 (by decide) (fun h5 => ?_) (fun h5 => ?_)
  · refine v_bipush K dX9_at_12 (by decide) ?_
    exact v_ri K E dX9_at_14 ⟨rfl, rfl, Or.inl ⟨rfl, by omega⟩⟩
  · refine v_iload_n K 2 dX9_at_8 rfl rfl ?_
    refine v_if_ge K 15 hk dX9_at_9 (by decide) (fun h9 => ?_) (fun h9 => ?_)
    · refine v_iload_n K 2 dX9_at_15 rfl rfl ?_
      refine v_aload_n K 0 dX9_at_16 rfl rfl ?_
      refine v_getr K ff_X9_19 (by decide) rfl rfl rfl dX9_at_17 ?_
      refine v_iload_n K 1 dX9_at_20 rfl rfl ?_
      refine v_iald K (d.toNat) (by decide) rfl (by omega) (by show _ < 5; omega) dX9_at_21 ?_
      have w := us d.toNat (by omega)
      refine v_icmp_ge K 39 hk ⟨by omega, by omega⟩ dX9_at_22 (by decide) (fun h22 => ?_) (fun h22 => ?_)
      · refine v_iconst K dX9_at_39 ?_
        exact v_ri K E dX9_at_40 ⟨rfl, rfl, Or.inr ⟨by omega, by first | exact Or.inl ⟨by omega, rfl⟩ | exact Or.inr ⟨by omega, rfl⟩⟩⟩
      · refine v_aload_n K 0 dX9_at_25 rfl rfl ?_
        refine v_getr K ff_X9_22 (by decide) rfl rfl rfl dX9_at_26 ?_
        refine v_bipush K dX9_at_29 (by decide) ?_
        refine v_iload_n K 1 dX9_at_31 rfl rfl ?_
        refine v_imul K dX9_at_32 ?_
        refine v_iload_n K 2 dX9_at_33 rfl rfl ?_
        refine v_iadd K dX9_at_34 ?_
        refine v_iald K (10 * d.toNat + k.toNat) (by decide) rfl (by omega) (by show _ < 50; omega) dX9_at_35 ?_
        refine v_goto K 40 dX9_at_36 (by decide) ?_
        exact v_ri K E dX9_at_40 ⟨rfl, rfl, Or.inr ⟨by omega, by first | exact Or.inl ⟨by omega, rfl⟩ | exact Or.inr ⟨by omega, rfl⟩⟩⟩
    · refine v_bipush K dX9_at_12 (by decide) ?_
      exact v_ri K E dX9_at_14 ⟨rfl, rfl, Or.inl ⟨rfl, by omega⟩⟩
set_option maxRecDepth 100000 in
set_option maxHeartbeats 4000000 in
theorem c_X9_life {l : Launch} {D : va_G} {Z : ZC} {Q : Nat → Nat} {MI ML : ZM} (v : Int) (hv : rg v) : C_X9_life l D Z Q [.ref (Q 90), .int (iI v)] MI ML (zI fun r M L => L = ML ∧ ((r = -2 ∧ M = MI ∧ ¬ (5 ≤ v ∧ v ≤ 40)) ∨ ((5 ≤ v ∧ v ≤ 40) ∧ r = MI 90 7 ∧ M = z_up MI 90 7 v))) := by
  refine CM.of (by decide +kernel) (Nat.le_of_ble_eq_true rfl) ?_
  intro X K E _ _ _ _
  show V X (0, 0) 110 Q z_rf MI ML 0 [(0, .ref (Q 90)), (1, .int (iI v))] []
  refine v_iload_n K 1 dX9_life_0 rfl rfl ?_
  refine v_iconst K dX9_life_1 ?_
  refine v_bipush K dX9_life_2 (by decide) ?_
  refine v_cSi K (c_X9_in _ _ _ hv ⟨by omega, by omega⟩ ⟨by omega, by omega⟩) rfl fc_X9_75 wt_X9_in rfl (by decide) (Nat.le_of_ble_eq_true rfl) dX9_life_4 (fun r4 M4 L4 h4 => ?_)
  obtain ⟨hm4, hl4, hr4⟩ := h4
  subst M4 L4
  refine v_if_ne K 13 ⟨by omega, by omega⟩ dX9_life_7 (by decide) (fun h7 => ?_) (fun h7 => ?_)
  · refine v_aload_n K 0 dX9_life_13 rfl rfl ?_
    refine v_geti K ff_X9_25 (by decide) rfl rfl dX9_life_14 ?_
    refine v_istore_n K (fun q9 => [(2, .int (iI q9)), (0, .ref (Q 90)), (1, .int (iI v))]) dX9_life_17 rfl (by decide) (fun _ => rfl) (fun x17 hx17 => ?_)
    refine v_aload_n K 1 dX9_life_18 rfl rfl ?_
    refine v_iload_n K 2 dX9_life_19 rfl rfl ?_
    refine v_puti K fp_X9_25 (by decide) rfl rfl dX9_life_20 ?_
    refine v_iload_n K 0 dX9_life_23 rfl rfl ?_
    exact v_ri K E dX9_life_24 ⟨rfl, Or.inr ⟨by omega, hx17, rfl⟩⟩
  · refine v_bipush K dX9_life_10 (by decide) ?_
    exact v_ri K E dX9_life_12 ⟨rfl, Or.inl ⟨rfl, rfl, by omega⟩⟩
/-- how many cards stand in the first k decks -/
def sumK (f : Nat → Int) : Nat → Int
  | 0 => 0
  | k + 1 => sumK f k + f k
theorem sumK_b {f : Nat → Int} {B : Int} (n : Nat) (h : ∀ i, i < n → 0 ≤ f i ∧ f i ≤ B) : ∀ k, k ≤ n → 0 ≤ sumK f k ∧ sumK f k ≤ k * B := by
  intro k
  induction k with
  | zero => intro _; simp [sumK]
  | succ k ih =>
    intro hk
    have h1 := ih (by omega)
    have h2 := h k (by omega)
    have e : ((k + 1 : Nat) : Int) * B = k * B + B := by rw [Int.natCast_add, Int.add_mul]; simp
    rw [e]
    simp only [sumK]
    omega
set_option maxRecDepth 100000 in
set_option maxHeartbeats 4000000 in
theorem l_X9_count {X : VX} {Q : Nat → Nat} {MI ML : ZM} (K : VK X cX9_count RX9 4 (some .int) 0 0 0 0) (hM : mOk MI) (what : Int) (hw : what = 2) (E : VE X 0 0 110 Q (zq Q (zI fun r M L => L = ML ∧ M = MI ∧ ((what = 0 ∧ r = MI 90 0) ∨ (what = 1 ∧ r = MI 90 4) ∨ (what = 2 ∧ r = sumK (MI 94) (MI 90 4).toNat) ∨ (what = 3 ∧ r = MI 90 7) ∨ ((what < 0 ∨ 3 < what) ∧ r = -2))))) : ∀ (n k : Nat), (k : Int) ≤ MI 90 4 → MI 90 4 < k + n → V X (0, 0) 110 Q z_rf MI ML 44 [(3, .int (iI (k : Int))), (2, .int (iI (sumK (MI 94) k))), (0, .ref (Q 90)), (1, .int (iI what))] [] := by
  have u4 := hM.2.1
  intro n
  induction n with
  | zero => intro k hk hn; exact absurd hn (by omega)
  | succ n ih =>
    intro k hk hn
    refine v_iload_n K 0 dX9_count_44 rfl rfl ?_
    refine v_aload_n K 2 dX9_count_45 rfl rfl ?_
    refine v_geti K ff_X9_79 (by decide) rfl rfl dX9_count_46 ?_
    refine v_icmp_ge K 67 ⟨by omega, by omega⟩ ⟨by omega, by omega⟩ dX9_count_49 (by decide) (fun h49 => ?_) (fun h49 => ?_)
    · obtain rfl : k = (MI 90 4).toNat := by omega
      refine v_iload_n K 1 dX9_count_67 rfl rfl ?_
      exact v_ri K E dX9_count_68 ⟨rfl, rfl, Or.inr (Or.inr (Or.inl ⟨hw, rfl⟩))⟩
    · refine v_iload_n K 1 dX9_count_52 rfl rfl ?_
      refine v_aload_n K 2 dX9_count_53 rfl rfl ?_
      refine v_getr K ff_X9_19 (by decide) rfl rfl rfl dX9_count_54 ?_
      refine v_iload_n K 0 dX9_count_57 rfl rfl ?_
      refine v_iald K (k) (by decide) rfl rfl (by show _ < 5; omega) dX9_count_58 ?_
      refine v_iadd K dX9_count_59 ?_
      refine v_istore_n K (fun q9 => [(2, .int (iI q9)), (3, .int (iI (k : Int))), (0, .ref (Q 90)), (1, .int (iI what))]) dX9_count_60 rfl (by decide) (fun _ => rfl) (fun y hy => ?_)
      refine v_iinc K 1 (fun q9 => [(3, .int (iI q9)), (2, .int (iI y)), (0, .ref (Q 90)), (1, .int (iI what))]) dX9_count_61 rfl (by decide) (fun _ => rfl) (fun w hw => ?_)
      refine v_goto K 44 dX9_count_64 (by decide) ?_
      obtain rfl : w = ((k + 1 : Nat) : Int) := by omega
      obtain rfl : y = sumK (MI 94) (k + 1) := hy
      exact ih (k + 1) (by omega) (by omega)
set_option maxRecDepth 100000 in
set_option maxHeartbeats 4000000 in
theorem c_X9_count {l : Launch} {D : va_G} {Z : ZC} {Q : Nat → Nat} {MI ML : ZM} (hM : mOk MI) (what : Int) (hw : rg what) : C_X9_count l D Z Q [.ref (Q 90), .int (iI what)] MI ML (zI fun r M L => L = ML ∧ M = MI ∧ ((what = 0 ∧ r = MI 90 0) ∨ (what = 1 ∧ r = MI 90 4) ∨ (what = 2 ∧ r = sumK (MI 94) (MI 90 4).toNat) ∨ (what = 3 ∧ r = MI 90 7) ∨ ((what < 0 ∨ 3 < what) ∧ r = -2))) := by
  refine CM.of (by decide +kernel) (Nat.le_of_ble_eq_true rfl) ?_
  intro X K E _ _ _ _
  show V X (0, 0) 110 Q z_rf MI ML 0 [(0, .ref (Q 90)), (1, .int (iI what))] []
  refine v_iconst K dX9_count_0 ?_
  refine v_istore_n K (fun x => [(2, .int (iI x)), (0, .ref (Q 90)), (1, .int (iI what))]) dX9_count_1 rfl (by decide) (fun _ => rfl) (fun x1 hx1 => ?_)
  refine v_iload_n K 2 dX9_count_2 rfl rfl ?_
  by_cases c0 : what < 0 ∨ 3 < what
  · refine v_tableOut K 74 hw dX9_count_3 c0 (by decide) ?_
    refine v_bipush K dX9_count_74 (by decide) ?_
    exact v_ri K E dX9_count_76 ⟨rfl, rfl, Or.inr (Or.inr (Or.inr (Or.inr ⟨c0, rfl⟩)))⟩
  rcases (show what = 0 ∨ what = 1 ∨ what = 2 ∨ what = 3 by omega) with rfl | rfl | rfl | rfl
  · refine v_tableIn K 32 hw dX9_count_3 (by omega) rfl (by decide) ?_
    refine v_aload_n K 1 dX9_count_32 rfl rfl ?_
    refine v_geti K ff_X9_72 (by decide) rfl rfl dX9_count_33 ?_
    exact v_ri K E dX9_count_36 ⟨rfl, rfl, Or.inl ⟨rfl, rfl⟩⟩
  · refine v_tableIn K 37 hw dX9_count_3 (by omega) rfl (by decide) ?_
    refine v_aload_n K 1 dX9_count_37 rfl rfl ?_
    refine v_geti K ff_X9_79 (by decide) rfl rfl dX9_count_38 ?_
    exact v_ri K E dX9_count_41 ⟨rfl, rfl, Or.inr (Or.inl ⟨rfl, rfl⟩)⟩
  · refine v_tableIn K 42 hw dX9_count_3 (by omega) rfl (by decide) ?_
    refine v_iconst K dX9_count_42 ?_
    refine v_istore_n K (fun q9 => [(3, .int (iI q9)), (2, .int (iI x1)), (0, .ref (Q 90)), (1, .int (iI 2))]) dX9_count_43 rfl (by decide) (fun _ => rfl) (fun y hy => ?_)
    subst hy
    subst hx1
    exact l_X9_count K hM 2 rfl E _ 0 hM.2.1.1 (by have := hM.2.1.2; show _ < ((0 : Nat) : Int) + ((6 : Nat) : Int); omega)
  · refine v_tableIn K 69 hw dX9_count_3 (by omega) rfl (by decide) ?_
    refine v_aload_n K 1 dX9_count_69 rfl rfl ?_
    refine v_geti K ff_X9_25 (by decide) rfl rfl dX9_count_70 ?_
    exact v_ri K E dX9_count_73 ⟨rfl, rfl, Or.inr (Or.inr (Or.inr (Or.inl ⟨rfl, rfl⟩)))⟩
