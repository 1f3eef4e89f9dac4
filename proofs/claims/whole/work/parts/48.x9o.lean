def wi (T : Nat → Nat → Int) (N : Nat) (u v : Int) : Prop := ∃ z, mxI T N z ∧ ∀ d, d < N → z d * v ≤ u * sumK z N
theorem wi_z {T : Nat → Nat → Int} {N : Nat} {u v : Int} {z : Nat → Int} (hz : mxI T N z) : wi T N u v ↔ ∀ d, d < N → z d * v ≤ u * sumK z N := by
  refine ⟨fun ⟨y, hy, h⟩ d hd => ?_, fun h => ⟨z, hz, h⟩⟩
  have e := lge_anti (hz.2 y hy.1) (hy.2 z hz.1) d hd
  have p := Int.mul_le_mul_of_nonneg_right (h d hd) (Int.le_of_lt hz.1.2)
  have q : z d * v * sumK y N ≤ u * sumK z N * sumK y N := by grind
  exact Int.le_of_mul_le_mul_right q hy.1.2
theorem wi_m {T : Nat → Nat → Int} {N : Nat} {u v : Int} {a b : Nat → Int} (h : mixR T N a b) : wi T N u v ↔ ∀ d, d < N → a d * v ≤ u * b d := by
  obtain ⟨z, hz, hr⟩ := h
  rw [wi_z hz]
  have S := hz.1.2
  constructor
  · intro H d hd
    obtain ⟨b0, -, -, -, -, e⟩ := hr d hd
    have p := Int.mul_le_mul_of_nonneg_left (H d hd) (Int.le_of_lt b0)
    have q : a d * v * sumK z N ≤ u * b d * sumK z N := by grind
    exact Int.le_of_mul_le_mul_right q S
  · intro H d hd
    obtain ⟨b0, -, -, -, -, e⟩ := hr d hd
    have p := Int.mul_le_mul_of_nonneg_right (H d hd) (Int.le_of_lt S)
    have q : b d * (z d * v) ≤ b d * (u * sumK z N) := by grind
    exact Int.le_of_mul_le_mul_left q b0
theorem mixR_un {T : Nat → Nat → Int} {N : Nat} {a b a' b' : Nat → Int} (h : mixR T N a b) (h' : mixR T N a' b') : ∀ q, q < N → a q = a' q ∧ b q = b' q := by
  obtain ⟨z, hz, hr⟩ := h
  obtain ⟨y, hy, hs⟩ := h'
  intro q hq
  obtain ⟨b0, -, -, -, g, e⟩ := hr q hq
  obtain ⟨c0, -, -, -, g', e'⟩ := hs q hq
  have m := lge_anti (hz.2 y hy.1) (hy.2 z hz.1) q hq
  refine fr_eq b0 c0 g g' ?_
  have p := Int.mul_pos hz.1.2 hy.1.2
  refine Int.eq_of_mul_eq_mul_right (show sumK z N * sumK y N ≠ 0 by omega) ?_
  have x1 : a q * b' q * (sumK z N * sumK y N) = b q * b' q * (z q * sumK y N) := by grind
  have x2 : a' q * b q * (sumK z N * sumK y N) = b q * b' q * (y q * sumK z N) := by grind
  rw [x1, x2, m]
theorem scT.rf (M : ZM) : scT M M := fun _ _ _ _ => rfl
set_option maxRecDepth 100000 in
set_option maxHeartbeats 4000000 in
theorem c_X9_share {l : Launch} {D : va_G} {Z : ZC} {Q : Nat → Nat} {MI ML : ZM} (hM : mOk MI) (d p : Int) (hd : rg d) (hp : rg p) : C_X9_share l D Z Q [.ref (Q 90), .int (iI d), .int (iI p)] MI ML (zL fun r M L => scT MI M ∧ ((¬ (0 ≤ d ∧ d < MI 90 4 ∧ 0 ≤ p ∧ p ≤ 1) ∧ r = -2) ∨ ((0 ≤ d ∧ d < MI 90 4 ∧ 0 ≤ p ∧ p ≤ 1) ∧ ∃ a b, mixR (mTab MI) (MI 90 4).toNat a b ∧ r = if p = 0 then a d.toNat else b d.toNat))) := by
  refine CM.of (by decide +kernel) (Nat.le_of_ble_eq_true rfl) ?_
  intro X K E _ _ _ _
  show V X (0, 0) 110 Q z_rf MI ML 0 [(0, .ref (Q 90)), (1, .int (iI d)), (2, .int (iI p))] []
  have u4 := hM.2.1
  refine v_aload_n K 0 dX9_share_0 rfl rfl ?_
  refine v_iload_n K 1 dX9_share_1 rfl rfl ?_
  refine v_cVi K (c_X9_isDeck hM _ hd) rfl fc_X9_86 wm_X9_isDeck ws_X9_isDeck (by decide) 9 rfl (by decide) rfl rfl (by decide) (Nat.le_of_ble_eq_true rfl) dX9_share_2 (fun r2 M2 L2 h2 => ?_)
  obtain ⟨hm2, hl2, hr2⟩ := h2
  subst M2 L2
  refine v_if_eq K 17 ⟨by omega, by omega⟩ dX9_share_5 (by decide) (fun h5 => ?_) (fun h5 => ?_)
  · refine v_ldc2 K (-2) ck_X9_172 rfl dX9_share_17 ?_
    exact v_rl K E dX9_share_20 ⟨scT.rf MI, Or.inl ⟨by omega, rfl⟩⟩
  · refine v_iload_n K 2 dX9_share_8 rfl rfl ?_
    refine v_iconst K dX9_share_9 ?_
    refine v_iconst K dX9_share_10 ?_
    refine v_cSi K (c_X9_in _ _ _ hp rg_0 ⟨by omega, by omega⟩) rfl fc_X9_75 wt_X9_in rfl (by decide) (Nat.le_of_ble_eq_true rfl) dX9_share_11 (fun r11 M11 L11 h11 => ?_)
    obtain ⟨hm11, hl11, hr11⟩ := h11
    subst M11 L11
    refine v_if_ne K 21 ⟨by omega, by omega⟩ dX9_share_14 (by decide) (fun h14 => ?_) (fun h14 => ?_)
    · refine v_aload_n K 0 dX9_share_21 rfl rfl ?_
      refine v_cVv K (c_X9_findMix hM (MI 90 4).toNat (by omega) (by omega) (by omega)) rfl fc_X9_174 wm_X9_findMix ws_X9_findMix (by decide) 9 rfl (by decide) rfl rfl (by decide) (Nat.le_of_ble_eq_true rfl) dX9_share_22 (fun M22 L22 h22 => ?_)
      obtain ⟨h22a, h22b, h22c⟩ := h22
      refine v_iload_n K 2 dX9_share_25 rfl rfl ?_
      refine v_if_ne K 38 ⟨by omega, by omega⟩ dX9_share_26 (by decide) (fun h26 => ?_) (fun h26 => ?_)
      · refine v_aload_n K 0 dX9_share_38 rfl rfl ?_
        refine v_getr K ff_X9_66 (by decide) rfl rfl rfl dX9_share_39 ?_
        refine v_iload_n K 1 dX9_share_42 rfl rfl ?_
        refine v_lald K (d.toNat) (by decide) rfl (by omega) (by show _ < 5; omega) dX9_share_43 ?_
        exact v_rl K E dX9_share_44 ⟨h22a, Or.inr ⟨by omega, _, _, h22c, by first | exact (if_pos (by omega)).symm | exact (if_neg (by omega)).symm⟩⟩
      · refine v_aload_n K 0 dX9_share_29 rfl rfl ?_
        refine v_getr K ff_X9_63 (by decide) rfl rfl rfl dX9_share_30 ?_
        refine v_iload_n K 1 dX9_share_33 rfl rfl ?_
        refine v_lald K (d.toNat) (by decide) rfl (by omega) (by show _ < 5; omega) dX9_share_34 ?_
        refine v_goto K 44 dX9_share_35 (by decide) ?_
        exact v_rl K E dX9_share_44 ⟨h22a, Or.inr ⟨by omega, _, _, h22c, by first | exact (if_pos (by omega)).symm | exact (if_neg (by omega)).symm⟩⟩
    · refine v_ldc2 K (-2) ck_X9_172 rfl dX9_share_17 ?_
      exact v_rl K E dX9_share_20 ⟨scT.rf MI, Or.inl ⟨by omega, rfl⟩⟩
set_option maxRecDepth 100000 in
set_option maxHeartbeats 4000000 in
theorem l_X9_live {X : VX} {Q : Nat → Nat} {MI ML : ZM} (K : VK X cX9_live RX9 3 (some .int) 7 161 0 0) (hM : mOk MI) (hp : 0 < MI 90 4) (M L : ZM) (hs : scT MI M) (hm : mixR (mTab MI) (MI 90 4).toNat (L 107) (L 108)) (E : VE X 0 0 110 Q (zq Q (zI fun r M L => scT MI M ∧ ((MI 90 4 = 0 ∧ r = -3) ∨ (0 < MI 90 4 ∧ ∃ a b, mixR (mTab MI) (MI 90 4).toNat a b ∧ r = sumK (fun q => if 0 < a q then 1 else 0) (MI 90 4).toNat))))) : ∀ (n k : Nat) (x : Int), x = sumK (fun q => if 0 < L 107 q then 1 else 0) k → (k : Int) ≤ MI 90 4 → MI 90 4 < k + n → V X (0, 0) 110 Q z_rf M L 18 [(2, .int (iI (k : Int))), (1, .int (iI x)), (0, .ref (Q 90))] [] := by
  have u4 := hM.2.1
  intro n
  induction n with
  | zero => intro k x hx hk hn; exact absurd hn (by omega)
  | succ n ih =>
    intro k x hx hk hn
    refine v_iload_n K 0 dX9_live_18 rfl rfl ?_
    refine v_aload_n K 2 dX9_live_19 rfl rfl ?_
    refine v_geti K ff_X9_79 (by decide) rfl rfl dX9_live_20 ?_
    refine v_eqi (MI 90 4) (hs 90 4 (by omega) (by decide)) ?_
    refine v_icmp_ge K 51 ⟨by omega, by omega⟩ ⟨by omega, by omega⟩ dX9_live_23 (by decide) (fun h23 => ?_) (fun h23 => ?_)
    · obtain rfl : k = (MI 90 4).toNat := (by omega)
      refine v_iload_n K 1 dX9_live_51 rfl rfl ?_
      exact v_ri K E dX9_live_52 ⟨hs, Or.inr ⟨hp, _, _, hm, hx⟩⟩
    · have b9 : -50000 ≤ L 107 k ∧ L 107 k ≤ 50000 := by obtain ⟨z, -, hr⟩ := hm; have := hr k (by omega); omega
      refine v_iload_n K 1 dX9_live_26 rfl rfl ?_
      refine v_aload_n K 2 dX9_live_27 rfl rfl ?_
      refine v_getr K ff_X9_63 (by decide) rfl rfl rfl dX9_live_28 ?_
      refine v_iload_n K 0 dX9_live_31 rfl rfl ?_
      refine v_lald K (k) (by decide) rfl (by omega) (by show _ < 5; omega) dX9_live_32 ?_
      refine v_lconst K 0 dX9_live_33 rfl ?_
      refine v_lcmp_le K 42 (rl9 (by omega) (by omega)) (rl9 (by omega) (by omega)) dX9_live_34 dX9_live_35 (by decide) (fun h34 => ?_) (fun h34 => ?_)
      · refine v_iconst K dX9_live_42 ?_
        refine v_iadd K dX9_live_43 ?_
        refine v_istore_n K (fun q9 => [(1, .int (iI q9)), (2, .int (iI (k : Int))), (0, .ref (Q 90))]) dX9_live_44 rfl (by decide) (fun _ => rfl) (fun x2 hx2 => ?_)
        refine v_iinc K 1 (fun q9 => [(2, .int (iI q9)), (1, .int (iI x2)), (0, .ref (Q 90))]) dX9_live_45 rfl (by decide) (fun _ => rfl) (fun w hw => ?_)
        refine v_goto K 18 dX9_live_48 (by decide) ?_
        obtain rfl : w = ((k + 1 : Nat) : Int) := by omega
        exact ih (k + 1) x2 (by simp only [sumK]; first | rw [if_pos (by omega)]; omega | rw [if_neg (by omega)]; omega) (by omega) (by omega)
      · refine v_iconst K dX9_live_38 ?_
        refine v_goto K 43 dX9_live_39 (by decide) ?_
        refine v_iadd K dX9_live_43 ?_
        refine v_istore_n K (fun q9 => [(1, .int (iI q9)), (2, .int (iI (k : Int))), (0, .ref (Q 90))]) dX9_live_44 rfl (by decide) (fun _ => rfl) (fun x2 hx2 => ?_)
        refine v_iinc K 1 (fun q9 => [(2, .int (iI q9)), (1, .int (iI x2)), (0, .ref (Q 90))]) dX9_live_45 rfl (by decide) (fun _ => rfl) (fun w hw => ?_)
        refine v_goto K 18 dX9_live_48 (by decide) ?_
        obtain rfl : w = ((k + 1 : Nat) : Int) := by omega
        exact ih (k + 1) x2 (by simp only [sumK]; first | rw [if_pos (by omega)]; omega | rw [if_neg (by omega)]; omega) (by omega) (by omega)
set_option maxRecDepth 100000 in
set_option maxHeartbeats 4000000 in
theorem c_X9_live {l : Launch} {D : va_G} {Z : ZC} {Q : Nat → Nat} {MI ML : ZM} (hM : mOk MI) : C_X9_live l D Z Q [.ref (Q 90)] MI ML (zI fun r M L => scT MI M ∧ ((MI 90 4 = 0 ∧ r = -3) ∨ (0 < MI 90 4 ∧ ∃ a b, mixR (mTab MI) (MI 90 4).toNat a b ∧ r = sumK (fun q => if 0 < a q then 1 else 0) (MI 90 4).toNat))) := by
  refine CM.of (by decide +kernel) (Nat.le_of_ble_eq_true rfl) ?_
  intro X K E _ _ _ _
  show V X (0, 0) 110 Q z_rf MI ML 0 [(0, .ref (Q 90))] []
  have u4 := hM.2.1
  refine v_aload_n K 0 dX9_live_0 rfl rfl ?_
  refine v_geti K ff_X9_79 (by decide) rfl rfl dX9_live_1 ?_
  refine v_if_ne K 10 ⟨by omega, by omega⟩ dX9_live_4 (by decide) (fun h4 => ?_) (fun h4 => ?_)
  · refine v_aload_n K 0 dX9_live_10 rfl rfl ?_
    refine v_cVv K (c_X9_findMix hM (MI 90 4).toNat (by omega) (by omega) (by omega)) rfl fc_X9_174 wm_X9_findMix ws_X9_findMix (by decide) 9 rfl (by decide) rfl rfl (by decide) (Nat.le_of_ble_eq_true rfl) dX9_live_11 (fun M11 L11 h11 => ?_)
    obtain ⟨h11a, h11b, h11c⟩ := h11
    refine v_iconst K dX9_live_14 ?_
    refine v_istore_n K (fun q9 => [(1, .int (iI q9)), (0, .ref (Q 90))]) dX9_live_15 rfl (by decide) (fun _ => rfl) (fun x hx => ?_)
    refine v_iconst K dX9_live_16 ?_
    refine v_istore_n K (fun q9 => [(2, .int (iI q9)), (1, .int (iI x)), (0, .ref (Q 90))]) dX9_live_17 rfl (by decide) (fun _ => rfl) (fun k0 hk0 => ?_)
    subst hk0
    exact l_X9_live (ML := ML) K hM (by omega) M11 L11 h11a h11c E 6 0 x hx (by omega) (by omega)
  · refine v_bipush K dX9_live_7 (by decide) ?_
    exact v_ri K E dX9_live_9 ⟨scT.rf MI, Or.inl ⟨by omega, rfl⟩⟩
set_option maxRecDepth 100000 in
set_option maxHeartbeats 4000000 in
theorem l_X9_isRemedied {X : VX} {Q : Nat → Nat} {MI ML : ZM} (K : VK X cX9_isRemedied RX9 5 (some .boolean) 7 161 0 0) (hM : mOk MI) (hp : 0 < MI 90 4) (u v : Int) (hu : 1 ≤ u) (huv : u ≤ v) (hv : v ≤ 20) (M L : ZM) (hs : scT MI M) (hm : mixR (mTab MI) (MI 90 4).toNat (L 107) (L 108)) (E : VE X 0 0 110 Q (zq Q (zI fun r M L => scT MI M ∧ ((r = 1 ∧ wi (mTab MI) (MI 90 4).toNat u v) ∨ (r = 0 ∧ ¬ wi (mTab MI) (MI 90 4).toNat u v))))) : ∀ (n k : Nat) (x : Int), ((x = 1 ∧ ∀ d, d < k → L 107 d * v ≤ u * L 108 d) ∨ (x = 0 ∧ ∃ d, d < (MI 90 4).toNat ∧ ¬ L 107 d * v ≤ u * L 108 d)) → (k : Int) ≤ MI 90 4 → MI 90 4 < k + n → V X (0, 0) 110 Q z_rf M L 9 [(4, .int (iI (k : Int))), (3, .int (iI x)), (0, .ref (Q 90)), (1, .int (iI u)), (2, .int (iI v))] [] := by
  have u4 := hM.2.1
  intro n
  induction n with
  | zero => intro k x hx hk hn; exact absurd hn (by omega)
  | succ n ih =>
    intro k x hx hk hn
    have hx9 : rg x := by rcases hx with ⟨q, -⟩ | ⟨q, -⟩ <;> exact ⟨by omega, by omega⟩
    refine v_iload K 0 dX9_isRemedied_9 rfl ?_
    refine v_aload_n K 2 dX9_isRemedied_11 rfl rfl ?_
    refine v_geti K ff_X9_79 (by decide) rfl rfl dX9_isRemedied_12 ?_
    refine v_eqi (MI 90 4) (hs 90 4 (by omega) (by decide)) ?_
    refine v_icmp_ge K 58 ⟨by omega, by omega⟩ ⟨by omega, by omega⟩ dX9_isRemedied_15 (by decide) (fun h15 => ?_) (fun h15 => ?_)
    · obtain rfl : k = (MI 90 4).toNat := (by omega)
      refine v_iload_n K 1 dX9_isRemedied_58 rfl rfl ?_
      exact v_rz K E (by rcases hx with ⟨q, -⟩ | ⟨q, -⟩ <;> omega) dX9_isRemedied_59 (by refine ⟨hs, ?_⟩; rw [wi_m hm]; rcases hx with ⟨q, q2⟩ | ⟨q, d, d1, d2⟩; exact Or.inl ⟨q, q2⟩; exact Or.inr ⟨q, fun h => d2 (h d d1)⟩)
    · have b9 : -50000 ≤ L 107 k ∧ L 107 k ≤ 50000 ∧ 0 < L 108 k ∧ L 108 k ≤ 50000 := by obtain ⟨z, -, hr⟩ := hm; have := hr k (by omega); omega
      have m1 := mul_bd (B := 50000) b9.1 b9.2.1 (show -50000 ≤ v by omega) (show v ≤ 50000 by omega)
      have m2 := mul_bd (B := 50000) (show -50000 ≤ u by omega) (show u ≤ 50000 by omega) (show -50000 ≤ L 108 k by omega) b9.2.2.2
      refine v_iload_n K 1 dX9_isRemedied_18 rfl rfl ?_
      refine v_if_eq K 50 hx9 dX9_isRemedied_19 (by decide) (fun h19 => ?_) (fun h19 => ?_)
      · refine v_iconst K dX9_isRemedied_50 ?_
        refine v_istore_n K (fun q9 => [(3, .int (iI q9)), (4, .int (iI (k : Int))), (0, .ref (Q 90)), (1, .int (iI u)), (2, .int (iI v))]) dX9_isRemedied_51 rfl (by decide) (fun _ => rfl) (fun x2 hx2 => ?_)
        refine v_iinc K 1 (fun q9 => [(4, .int (iI q9)), (3, .int (iI x2)), (0, .ref (Q 90)), (1, .int (iI u)), (2, .int (iI v))]) dX9_isRemedied_52 rfl (by decide) (fun _ => rfl) (fun w hw => ?_)
        refine v_goto K 9 dX9_isRemedied_55 (by decide) ?_
        obtain rfl : w = ((k + 1 : Nat) : Int) := by omega
        exact ih (k + 1) x2 (by first | exact Or.inl ⟨hx2, fun d hd => by by_cases e : d = k; (subst e; omega); (rcases hx with ⟨-, z⟩ | ⟨z, -⟩; exact z d (by omega); exact absurd z h19)⟩ | exact Or.inr ⟨hx2, by rcases hx with ⟨z, -⟩ | ⟨-, q⟩; exact absurd z (by omega); exact q⟩ | exact Or.inr ⟨hx2, k, by omega, by omega⟩) (by omega) (by omega)
      · refine v_aload_n K 2 dX9_isRemedied_22 rfl rfl ?_
        refine v_getr K ff_X9_63 (by decide) rfl rfl rfl dX9_isRemedied_23 ?_
        refine v_iload K 0 dX9_isRemedied_26 rfl ?_
        refine v_lald K (k) (by decide) rfl (by omega) (by show _ < 5; omega) dX9_isRemedied_28 ?_
        refine v_iload_n K 4 dX9_isRemedied_29 rfl rfl ?_
        refine v_i2l K ⟨by omega, by omega⟩ dX9_isRemedied_30 ?_
        refine v_lmul K dX9_isRemedied_31 ?_
        refine v_iload_n K 3 dX9_isRemedied_32 rfl rfl ?_
        refine v_i2l K ⟨by omega, by omega⟩ dX9_isRemedied_33 ?_
        refine v_aload_n K 2 dX9_isRemedied_34 rfl rfl ?_
        refine v_getr K ff_X9_66 (by decide) rfl rfl rfl dX9_isRemedied_35 ?_
        refine v_iload K 0 dX9_isRemedied_38 rfl ?_
        refine v_lald K (k) (by decide) rfl (by omega) (by show _ < 5; omega) dX9_isRemedied_40 ?_
        refine v_lmul K dX9_isRemedied_41 ?_
        refine v_lcmp_gt K 50 (rl9 (by omega) (by omega)) (rl9 (by omega) (by omega)) dX9_isRemedied_42 dX9_isRemedied_43 (by decide) (fun h42 => ?_) (fun h42 => ?_)
        · refine v_iconst K dX9_isRemedied_50 ?_
          refine v_istore_n K (fun q9 => [(3, .int (iI q9)), (4, .int (iI (k : Int))), (0, .ref (Q 90)), (1, .int (iI u)), (2, .int (iI v))]) dX9_isRemedied_51 rfl (by decide) (fun _ => rfl) (fun x2 hx2 => ?_)
          refine v_iinc K 1 (fun q9 => [(4, .int (iI q9)), (3, .int (iI x2)), (0, .ref (Q 90)), (1, .int (iI u)), (2, .int (iI v))]) dX9_isRemedied_52 rfl (by decide) (fun _ => rfl) (fun w hw => ?_)
          refine v_goto K 9 dX9_isRemedied_55 (by decide) ?_
          obtain rfl : w = ((k + 1 : Nat) : Int) := by omega
          exact ih (k + 1) x2 (by first | exact Or.inl ⟨hx2, fun d hd => by by_cases e : d = k; (subst e; omega); (rcases hx with ⟨-, z⟩ | ⟨z, -⟩; exact z d (by omega); exact absurd z h19)⟩ | exact Or.inr ⟨hx2, by rcases hx with ⟨z, -⟩ | ⟨-, q⟩; exact absurd z (by omega); exact q⟩ | exact Or.inr ⟨hx2, k, by omega, by omega⟩) (by omega) (by omega)
        · refine v_iconst K dX9_isRemedied_46 ?_
          refine v_goto K 51 dX9_isRemedied_47 (by decide) ?_
          refine v_istore_n K (fun q9 => [(3, .int (iI q9)), (4, .int (iI (k : Int))), (0, .ref (Q 90)), (1, .int (iI u)), (2, .int (iI v))]) dX9_isRemedied_51 rfl (by decide) (fun _ => rfl) (fun x2 hx2 => ?_)
          refine v_iinc K 1 (fun q9 => [(4, .int (iI q9)), (3, .int (iI x2)), (0, .ref (Q 90)), (1, .int (iI u)), (2, .int (iI v))]) dX9_isRemedied_52 rfl (by decide) (fun _ => rfl) (fun w hw => ?_)
          refine v_goto K 9 dX9_isRemedied_55 (by decide) ?_
          obtain rfl : w = ((k + 1 : Nat) : Int) := by omega
          exact ih (k + 1) x2 (by first | exact Or.inl ⟨hx2, fun d hd => by by_cases e : d = k; (subst e; omega); (rcases hx with ⟨-, z⟩ | ⟨z, -⟩; exact z d (by omega); exact absurd z h19)⟩ | exact Or.inr ⟨hx2, by rcases hx with ⟨z, -⟩ | ⟨-, q⟩; exact absurd z (by omega); exact q⟩ | exact Or.inr ⟨hx2, k, by omega, by omega⟩) (by omega) (by omega)
set_option maxRecDepth 100000 in
set_option maxHeartbeats 4000000 in
theorem c_X9_isRemedied {l : Launch} {D : va_G} {Z : ZC} {Q : Nat → Nat} {MI ML : ZM} (hM : mOk MI) (hp : 0 < MI 90 4) (u v : Int) (hu : 1 ≤ u) (huv : u ≤ v) (hv : v ≤ 20) : C_X9_isRemedied l D Z Q [.ref (Q 90), .int (iI u), .int (iI v)] MI ML (zI fun r M L => scT MI M ∧ ((r = 1 ∧ wi (mTab MI) (MI 90 4).toNat u v) ∨ (r = 0 ∧ ¬ wi (mTab MI) (MI 90 4).toNat u v))) := by
  refine CM.of (by decide +kernel) (Nat.le_of_ble_eq_true rfl) ?_
  intro X K E _ _ _ _
  show V X (0, 0) 110 Q z_rf MI ML 0 [(0, .ref (Q 90)), (1, .int (iI u)), (2, .int (iI v))] []
  have u4 := hM.2.1
  refine v_aload_n K 0 dX9_isRemedied_0 rfl rfl ?_
  refine v_cVv K (c_X9_findMix hM (MI 90 4).toNat (by omega) (by omega) (by omega)) rfl fc_X9_174 wm_X9_findMix ws_X9_findMix (by decide) 9 rfl (by decide) rfl rfl (by decide) (Nat.le_of_ble_eq_true rfl) dX9_isRemedied_1 (fun M1 L1 h1 => ?_)
  obtain ⟨h1a, h1b, h1c⟩ := h1
  refine v_iconst K dX9_isRemedied_4 ?_
  refine v_istore_n K (fun q9 => [(3, .int (iI q9)), (0, .ref (Q 90)), (1, .int (iI u)), (2, .int (iI v))]) dX9_isRemedied_5 rfl (by decide) (fun _ => rfl) (fun x hx => ?_)
  refine v_iconst K dX9_isRemedied_6 ?_
  refine v_istore K (fun q9 => [(4, .int (iI q9)), (3, .int (iI x)), (0, .ref (Q 90)), (1, .int (iI u)), (2, .int (iI v))]) dX9_isRemedied_7 (by decide) (fun _ => rfl) (fun k0 hk0 => ?_)
  subst hk0
  exact l_X9_isRemedied (ML := ML) K hM hp u v hu huv hv M1 L1 h1a h1c E 6 0 x (Or.inl ⟨hx, fun d hd => absurd hd (by omega)⟩) (by omega) (by omega)
/-- before, in the order of changes, cards and ways -/
def bef (b c w b' c' w' : Nat) : Prop := b < b' ∨ (b = b' ∧ (c < c' ∨ (c = c' ∧ w < w')))
def nob (P : Nat → Nat → Nat → Prop) (C b c w : Nat) : Prop := ∀ b' c' w', 1 ≤ b' → b' ≤ 9 → c' < C → w' < 2 → bef b' c' w' b c w → ¬ P b' c' w'
def rmF (P : Nat → Nat → Nat → Prop) (pv : Nat → Nat → Nat → Int) (C : Nat) (r : Int) : Prop := (∃ b c w, 1 ≤ b ∧ b ≤ 9 ∧ c < C ∧ w < 2 ∧ P b c w ∧ nob P C b c w ∧ r = 10 * c + pv b c w) ∨ (nob P C 10 0 0 ∧ r = -1)
theorem rmF_un {P : Nat → Nat → Nat → Prop} {pv : Nat → Nat → Nat → Int} {C : Nat} {r r' : Int} (h : rmF P pv C r) (h' : rmF P pv C r') : r = r' := by
  rcases h with ⟨b, c, w, b1, b2, c1, w1, p, n, e⟩ | ⟨n, e⟩
  · rcases h' with ⟨b', c', w', b1', b2', c1', w1', p', n', e'⟩ | ⟨n', e'⟩
    · have x1 : ¬ bef b c w b' c' w' := fun q => n' b c w b1 b2 c1 w1 q p
      have x2 : ¬ bef b' c' w' b c w := fun q => n b' c' w' b1' b2' c1' w1' q p'
      unfold bef at x1 x2
      obtain ⟨rfl, rfl, rfl⟩ : b = b' ∧ c = c' ∧ w = w' := by omega
      rw [e, e']
    · exact absurd p (n' b c w b1 b2 c1 w1 (by unfold bef; omega))
  · rcases h' with ⟨b', c', w', b1', b2', c1', w1', p', n', e'⟩ | ⟨n', e'⟩
    · exact absurd p' (n b' c' w' b1' b2' c1' w1' (by unfold bef; omega))
    · rw [e, e']
def pvM (MI : ZM) (b c w : Nat) : Int := if w = 0 then MI 93 c - b else MI 93 c + b
def rmP (MI : ZM) (u v : Int) (b c w : Nat) : Prop := 0 ≤ pvM MI b c w ∧ pvM MI b c w ≤ 9 ∧ wi (mTab (z_up MI 93 c (pvM MI b c w))) (MI 90 4).toNat u v
theorem mOk_pw {MI : ZM} (hM : mOk MI) (c : Nat) {p : Int} (h0 : 0 ≤ p) (h9 : p ≤ 9) : mOk (z_up MI 93 c p) := by
  obtain ⟨a1, a2, a3, a4, a5, a6⟩ := hM
  refine ⟨by rw [z_up_k (by omega)]; exact a1, by rw [z_up_k (by omega)]; exact a2, by rw [z_up_k (by omega)]; exact a3, fun i hi => ?_, ?_, ?_⟩
  · rw [z_up_k (by omega), z_up_k (by omega)]
    refine ⟨(a4 i hi).1, (a4 i hi).2.1, ?_⟩
    by_cases e : i = c
    · subst e; rw [z_up_s]; exact ⟨h0, h9⟩
    · rw [z_up_j e]; exact (a4 i hi).2.2
  · simpa [z_up] using a5
  · simpa [z_up] using a6
theorem coM_pw {MI M : ZM} (h : coM MI M) (c : Nat) (p : Int) : coM (z_up MI 93 c p) (z_up M 93 c p) := by
  refine ⟨fun k h1 h2 => ?_, by rw [z_up_k (by omega), z_up_k (by omega)]; exact h.2.1, by rw [z_up_k (by omega), z_up_k (by omega)]; exact h.2.2.1, by rw [z_up_k (by omega), z_up_k (by omega)]; exact h.2.2.2⟩
  funext b
  simp only [z_up]
  rw [h.1 k h1 h2]
theorem scT_pw {MI M M2 : ZM} {c : Nat} {p w : Int} (h : scT MI M) (h2 : scT (z_up M 93 c p) M2) (hw : w = M 93 c) : scT MI (z_up M2 93 c w) := by
  intro a b q1 q2
  by_cases e : a = 93 ∧ b = c
  · obtain ⟨rfl, rfl⟩ := e; rw [z_up_s, hw]; exact h 93 b q1 q2
  · have x1 : z_up M2 93 c w a b = M2 a b := by simp only [z_up]; rw [if_neg e]
    have x2 : z_up M 93 c p a b = M a b := by simp only [z_up]; rw [if_neg e]
    rw [x1, h2 a b q1 q2, x2]; exact h a b q1 q2
theorem nob_w {P : Nat → Nat → Nat → Prop} {C b c w : Nat} (h : nob P C b c w) (hn : ¬ P b c w) : nob P C b c (w + 1) := by
  intro b' c' w' h1 h2 h3 h4 h5
  by_cases e : b' = b ∧ c' = c ∧ w' = w
  · obtain ⟨rfl, rfl, rfl⟩ := e; exact hn
  · exact h b' c' w' h1 h2 h3 h4 (by unfold bef at *; omega)
theorem nob_c {P : Nat → Nat → Nat → Prop} {C b c : Nat} (h : nob P C b c 2) : nob P C b (c + 1) 0 := fun b' c' w' h1 h2 h3 h4 h5 => h b' c' w' h1 h2 h3 h4 (by unfold bef at *; omega)
theorem nob_b {P : Nat → Nat → Nat → Prop} {C b : Nat} (h : nob P C b C 0) : nob P C (b + 1) 0 0 := fun b' c' w' h1 h2 h3 h4 h5 => h b' c' w' h1 h2 h3 h4 (by unfold bef at *; omega)
set_option maxRecDepth 100000 in
set_option maxHeartbeats 4000000 in
theorem l_X9_remedy_w {X : VX} {Q : Nat → Nat} {MI ML : ZM} (K : VK X cX9_remedy RX9 9 (some .int) 8 185 0 0) (hM : mOk MI) (hp : 0 < MI 90 4) (u v : Int) (hu : 1 ≤ u) (huv : u ≤ v) (hv : v ≤ 20) (b c : Nat) (hb1 : 1 ≤ b) (hb9 : b ≤ 9) (hc : (c : Int) < MI 90 0) (E : VE X 0 0 110 Q (zq Q (zI fun r M L => scT MI M ∧ ((¬ (1 ≤ v ∧ v ≤ 20 ∧ 1 ≤ u ∧ u ≤ v) ∧ r = -2) ∨ ((1 ≤ v ∧ v ≤ 20 ∧ 1 ≤ u ∧ u ≤ v) ∧ MI 90 4 = 0 ∧ r = -3) ∨ ((1 ≤ v ∧ v ≤ 20 ∧ 1 ≤ u ∧ u ≤ v) ∧ 0 < MI 90 4 ∧ rmF (rmP MI u v) (pvM MI) (MI 90 0).toNat r))))) (kk : ∀ (M L : ZM), scT MI M → nob (rmP MI u v) (MI 90 0).toNat b c 2 → V X (0, 0) 110 Q z_rf M L 145 [(5, .int (iI (2 : Int))), (4, .int (iI (c : Int))), (3, .int (iI (b : Int))), (0, .ref (Q 90)), (1, .int (iI u)), (2, .int (iI v))] []) : ∀ (n w : Nat) (M L : ZM), scT MI M → nob (rmP MI u v) (MI 90 0).toNat b c w → w ≤ 2 → 2 < w + n → V X (0, 0) 110 Q z_rf M L 55 [(5, .int (iI (w : Int))), (4, .int (iI (c : Int))), (3, .int (iI (b : Int))), (0, .ref (Q 90)), (1, .int (iI u)), (2, .int (iI v))] [] := by
  have u4 := hM.2.1
  have u0 := hM.1
  have uc := hM.2.2.2.1 c (by omega)
  intro n
  induction n with
  | zero => intro w M L hs G hw hn; exact absurd hn (by omega)
  | succ n ih =>
    intro w M L hs G hw hn
    have hpr : rg (pvM MI b c w) := by unfold pvM; split <;> exact ⟨by omega, by omega⟩
    refine v_iload K 0 dX9_remedy_55 rfl ?_
    refine v_iconst K dX9_remedy_57 ?_
    refine v_icmp_ge K 145 ⟨by omega, by omega⟩ ⟨by omega, by omega⟩ dX9_remedy_58 (by decide) (fun h58 => ?_) (fun h58 => ?_)
    · obtain rfl : w = 2 := (by omega)
      exact kk M L hs G
    · refine v_aload_n K 3 dX9_remedy_61 rfl rfl ?_
      refine v_getr K ff_X9_16 (by decide) rfl rfl rfl dX9_remedy_62 ?_
      refine v_iload K 1 dX9_remedy_65 rfl ?_
      refine v_iald K (c) (by decide) rfl (by omega) (by show _ < 12; omega) dX9_remedy_67 ?_
      refine v_eqi (MI 93 c) (hs 93 c (by omega) (by omega)) ?_
      refine v_istore K (fun q9 => [(6, .int (iI q9)), (5, .int (iI (w : Int))), (4, .int (iI (c : Int))), (3, .int (iI (b : Int))), (0, .ref (Q 90)), (1, .int (iI u)), (2, .int (iI v))]) dX9_remedy_68 (by decide) (fun _ => rfl) (fun q hq => ?_)
      subst hq
      refine v_iload K 1 dX9_remedy_70 rfl ?_
      refine v_if_ne K 82 ⟨by omega, by omega⟩ dX9_remedy_72 (by decide) (fun h72 => ?_) (fun h72 => ?_)
      · refine v_iload K 0 dX9_remedy_82 rfl ?_
        refine v_iload_n K 3 dX9_remedy_84 rfl rfl ?_
        refine v_iadd K dX9_remedy_85 ?_
        refine v_istore K (fun q9 => [(7, .int (iI q9)), (6, .int (iI (MI 93 c))), (5, .int (iI (w : Int))), (4, .int (iI (c : Int))), (3, .int (iI (b : Int))), (0, .ref (Q 90)), (1, .int (iI u)), (2, .int (iI v))]) dX9_remedy_86 (by decide) (fun _ => rfl) (fun p8 hp8 => ?_)
        obtain rfl : p8 = pvM MI b c w := by (rw [hp8]; unfold pvM; first | rw [if_pos (by omega)] | rw [if_neg (by omega)])
        have n4 : z_up M 93 c (pvM MI b c w) 90 4 = MI 90 4 := by rw [z_up_k (by omega)]; exact hs 90 4 (by omega) (by decide)
        refine v_iload K 0 dX9_remedy_88 rfl ?_
        refine v_iconst K dX9_remedy_90 ?_
        refine v_bipush K dX9_remedy_91 (by decide) ?_
        refine v_cSi K (c_X9_in _ _ _ hpr rg_0 ⟨by omega, by omega⟩) rfl fc_X9_75 wt_X9_in rfl (by decide) (Nat.le_of_ble_eq_true rfl) dX9_remedy_93 (fun r93 M93 L93 h93 => ?_)
        obtain ⟨hm93, hl93, hr93⟩ := h93
        subst M93 L93
        refine v_if_eq K 139 ⟨by omega, by omega⟩ dX9_remedy_96 (by decide) (fun h96 => ?_) (fun h96 => ?_)
        · refine v_iinc K 2 (fun q9 => [(5, .int (iI q9)), (7, .int (iI (pvM MI b c w))), (6, .int (iI (MI 93 c))), (4, .int (iI (c : Int))), (3, .int (iI (b : Int))), (0, .ref (Q 90)), (1, .int (iI u)), (2, .int (iI v))]) dX9_remedy_139 rfl (by decide) (fun _ => rfl) (fun w2 hw2 => ?_)
          refine v_goto K 55 dX9_remedy_142 (by decide) ?_
          obtain rfl : w2 = ((w + 1 : Nat) : Int) := by omega
          refine v_sub K [0, 3, 4, 5, 6, 7] rfl ?_
          first | exact ih (w + 1) _ _ hs2 (nob_w G (fun z => by rcases h111 with ⟨q, -⟩ | ⟨-, q⟩; exact absurd q (by omega); exact q z.2.2)) (by omega) (by omega) | exact ih (w + 1) _ _ hs (nob_w G (fun z => by have := z.1; have := z.2.1; omega)) (by omega) (by omega)
        · refine v_aload_n K 5 dX9_remedy_99 rfl rfl ?_
          refine v_getr K ff_X9_16 (by decide) rfl rfl rfl dX9_remedy_100 ?_
          refine v_iload K 3 dX9_remedy_103 rfl ?_
          refine v_iload K 0 dX9_remedy_105 rfl ?_
          refine v_iast K (c) (by decide) rfl (by omega) (by show _ < 12; omega) dX9_remedy_107 ?_
          refine v_aload_n K 5 dX9_remedy_108 rfl rfl ?_
          refine v_iload_n K 6 dX9_remedy_109 rfl rfl ?_
          refine v_iload_n K 7 dX9_remedy_110 rfl rfl ?_
          refine v_cVi K (c_X9_isRemedied (MI := z_up M 93 c (pvM MI b c w)) (mOk_pw (hs.co.ok hM) c (by omega) (by omega)) (by rw [n4]; exact hp) u v hu huv hv) rfl fc_X9_186 wm_X9_isRemedied ws_X9_isRemedied (by decide) 9 rfl (by decide) rfl rfl (by decide) (Nat.le_of_ble_eq_true rfl) dX9_remedy_111 (fun r111 M111 L111 h111 => ?_)
          obtain ⟨h111s, h111⟩ := h111
          rw [n4] at h111
          have et : mTab (z_up M 93 c (pvM MI b c w)) = mTab (z_up MI 93 c (pvM MI b c w)) := by funext i j; exact (coM_pw hs.co c _).tab i j
          rw [et] at h111
          have hs2 := scT_pw (w := MI 93 c) hs h111s (hs 93 c (by omega) (by omega)).symm
          refine v_istore K (fun q9 => [(8, .int (iI q9)), (7, .int (iI (pvM MI b c w))), (6, .int (iI (MI 93 c))), (5, .int (iI (w : Int))), (4, .int (iI (c : Int))), (3, .int (iI (b : Int))), (0, .ref (Q 90)), (1, .int (iI u)), (2, .int (iI v))]) dX9_remedy_114 (by decide) (fun _ => rfl) (fun x hx => ?_)
          refine v_aload_n K 6 dX9_remedy_116 rfl rfl ?_
          refine v_getr K ff_X9_16 (by decide) rfl rfl rfl dX9_remedy_117 ?_
          refine v_iload K 4 dX9_remedy_120 rfl ?_
          refine v_iload K 2 dX9_remedy_122 rfl ?_
          refine v_iast K (c) (by decide) rfl (by omega) (by show _ < 12; omega) dX9_remedy_124 ?_
          refine v_iload K 0 dX9_remedy_125 rfl ?_
          refine v_if_eq K 139 (by rcases h111 with ⟨q, -⟩ | ⟨q, -⟩ <;> exact ⟨by omega, by omega⟩) dX9_remedy_127 (by decide) (fun h127 => ?_) (fun h127 => ?_)
          · refine v_iinc K 3 (fun q9 => [(5, .int (iI q9)), (8, .int (iI x)), (7, .int (iI (pvM MI b c w))), (6, .int (iI (MI 93 c))), (4, .int (iI (c : Int))), (3, .int (iI (b : Int))), (0, .ref (Q 90)), (1, .int (iI u)), (2, .int (iI v))]) dX9_remedy_139 rfl (by decide) (fun _ => rfl) (fun w2 hw2 => ?_)
            refine v_goto K 55 dX9_remedy_142 (by decide) ?_
            obtain rfl : w2 = ((w + 1 : Nat) : Int) := by omega
            refine v_sub K [0, 4, 5, 6, 7, 8] rfl ?_
            first | exact ih (w + 1) _ _ hs2 (nob_w G (fun z => by rcases h111 with ⟨q, -⟩ | ⟨-, q⟩; exact absurd q (by omega); exact q z.2.2)) (by omega) (by omega) | exact ih (w + 1) _ _ hs (nob_w G (fun z => by have := z.1; have := z.2.1; omega)) (by omega) (by omega)
          · refine v_bipush K dX9_remedy_130 (by decide) ?_
            refine v_iload K 4 dX9_remedy_132 rfl ?_
            refine v_imul K dX9_remedy_134 ?_
            refine v_iload K 1 dX9_remedy_135 rfl ?_
            refine v_iadd K dX9_remedy_137 ?_
            exact v_ri K E dX9_remedy_138 ⟨hs2, Or.inr (Or.inr ⟨by omega, hp, Or.inl ⟨b, c, w, hb1, hb9, by omega, by omega, ⟨by omega, by omega, by rcases h111 with ⟨-, q⟩ | ⟨q, -⟩; exact q; exact absurd q (by omega)⟩, G, rfl⟩⟩)⟩
      · refine v_iload K 0 dX9_remedy_75 rfl ?_
        refine v_iload_n K 3 dX9_remedy_77 rfl rfl ?_
        refine v_isub K dX9_remedy_78 ?_
        refine v_goto K 86 dX9_remedy_79 (by decide) ?_
        refine v_istore K (fun q9 => [(7, .int (iI q9)), (6, .int (iI (MI 93 c))), (5, .int (iI (w : Int))), (4, .int (iI (c : Int))), (3, .int (iI (b : Int))), (0, .ref (Q 90)), (1, .int (iI u)), (2, .int (iI v))]) dX9_remedy_86 (by decide) (fun _ => rfl) (fun p8 hp8 => ?_)
        obtain rfl : p8 = pvM MI b c w := by (rw [hp8]; unfold pvM; first | rw [if_pos (by omega)] | rw [if_neg (by omega)])
        have n4 : z_up M 93 c (pvM MI b c w) 90 4 = MI 90 4 := by rw [z_up_k (by omega)]; exact hs 90 4 (by omega) (by decide)
        refine v_iload K 0 dX9_remedy_88 rfl ?_
        refine v_iconst K dX9_remedy_90 ?_
        refine v_bipush K dX9_remedy_91 (by decide) ?_
        refine v_cSi K (c_X9_in _ _ _ hpr rg_0 ⟨by omega, by omega⟩) rfl fc_X9_75 wt_X9_in rfl (by decide) (Nat.le_of_ble_eq_true rfl) dX9_remedy_93 (fun r93 M93 L93 h93 => ?_)
        obtain ⟨hm93, hl93, hr93⟩ := h93
        subst M93 L93
        refine v_if_eq K 139 ⟨by omega, by omega⟩ dX9_remedy_96 (by decide) (fun h96 => ?_) (fun h96 => ?_)
        · refine v_iinc K 2 (fun q9 => [(5, .int (iI q9)), (7, .int (iI (pvM MI b c w))), (6, .int (iI (MI 93 c))), (4, .int (iI (c : Int))), (3, .int (iI (b : Int))), (0, .ref (Q 90)), (1, .int (iI u)), (2, .int (iI v))]) dX9_remedy_139 rfl (by decide) (fun _ => rfl) (fun w2 hw2 => ?_)
          refine v_goto K 55 dX9_remedy_142 (by decide) ?_
          obtain rfl : w2 = ((w + 1 : Nat) : Int) := by omega
          refine v_sub K [0, 3, 4, 5, 6, 7] rfl ?_
          first | exact ih (w + 1) _ _ hs2 (nob_w G (fun z => by rcases h111 with ⟨q, -⟩ | ⟨-, q⟩; exact absurd q (by omega); exact q z.2.2)) (by omega) (by omega) | exact ih (w + 1) _ _ hs (nob_w G (fun z => by have := z.1; have := z.2.1; omega)) (by omega) (by omega)
        · refine v_aload_n K 5 dX9_remedy_99 rfl rfl ?_
          refine v_getr K ff_X9_16 (by decide) rfl rfl rfl dX9_remedy_100 ?_
          refine v_iload K 3 dX9_remedy_103 rfl ?_
          refine v_iload K 0 dX9_remedy_105 rfl ?_
          refine v_iast K (c) (by decide) rfl (by omega) (by show _ < 12; omega) dX9_remedy_107 ?_
          refine v_aload_n K 5 dX9_remedy_108 rfl rfl ?_
          refine v_iload_n K 6 dX9_remedy_109 rfl rfl ?_
          refine v_iload_n K 7 dX9_remedy_110 rfl rfl ?_
          refine v_cVi K (c_X9_isRemedied (MI := z_up M 93 c (pvM MI b c w)) (mOk_pw (hs.co.ok hM) c (by omega) (by omega)) (by rw [n4]; exact hp) u v hu huv hv) rfl fc_X9_186 wm_X9_isRemedied ws_X9_isRemedied (by decide) 9 rfl (by decide) rfl rfl (by decide) (Nat.le_of_ble_eq_true rfl) dX9_remedy_111 (fun r111 M111 L111 h111 => ?_)
          obtain ⟨h111s, h111⟩ := h111
          rw [n4] at h111
          have et : mTab (z_up M 93 c (pvM MI b c w)) = mTab (z_up MI 93 c (pvM MI b c w)) := by funext i j; exact (coM_pw hs.co c _).tab i j
          rw [et] at h111
          have hs2 := scT_pw (w := MI 93 c) hs h111s (hs 93 c (by omega) (by omega)).symm
          refine v_istore K (fun q9 => [(8, .int (iI q9)), (7, .int (iI (pvM MI b c w))), (6, .int (iI (MI 93 c))), (5, .int (iI (w : Int))), (4, .int (iI (c : Int))), (3, .int (iI (b : Int))), (0, .ref (Q 90)), (1, .int (iI u)), (2, .int (iI v))]) dX9_remedy_114 (by decide) (fun _ => rfl) (fun x hx => ?_)
          refine v_aload_n K 6 dX9_remedy_116 rfl rfl ?_
          refine v_getr K ff_X9_16 (by decide) rfl rfl rfl dX9_remedy_117 ?_
          refine v_iload K 4 dX9_remedy_120 rfl ?_
          refine v_iload K 2 dX9_remedy_122 rfl ?_
          refine v_iast K (c) (by decide) rfl (by omega) (by show _ < 12; omega) dX9_remedy_124 ?_
          refine v_iload K 0 dX9_remedy_125 rfl ?_
          refine v_if_eq K 139 (by rcases h111 with ⟨q, -⟩ | ⟨q, -⟩ <;> exact ⟨by omega, by omega⟩) dX9_remedy_127 (by decide) (fun h127 => ?_) (fun h127 => ?_)
          · refine v_iinc K 3 (fun q9 => [(5, .int (iI q9)), (8, .int (iI x)), (7, .int (iI (pvM MI b c w))), (6, .int (iI (MI 93 c))), (4, .int (iI (c : Int))), (3, .int (iI (b : Int))), (0, .ref (Q 90)), (1, .int (iI u)), (2, .int (iI v))]) dX9_remedy_139 rfl (by decide) (fun _ => rfl) (fun w2 hw2 => ?_)
            refine v_goto K 55 dX9_remedy_142 (by decide) ?_
            obtain rfl : w2 = ((w + 1 : Nat) : Int) := by omega
            refine v_sub K [0, 4, 5, 6, 7, 8] rfl ?_
            first | exact ih (w + 1) _ _ hs2 (nob_w G (fun z => by rcases h111 with ⟨q, -⟩ | ⟨-, q⟩; exact absurd q (by omega); exact q z.2.2)) (by omega) (by omega) | exact ih (w + 1) _ _ hs (nob_w G (fun z => by have := z.1; have := z.2.1; omega)) (by omega) (by omega)
          · refine v_bipush K dX9_remedy_130 (by decide) ?_
            refine v_iload K 4 dX9_remedy_132 rfl ?_
            refine v_imul K dX9_remedy_134 ?_
            refine v_iload K 1 dX9_remedy_135 rfl ?_
            refine v_iadd K dX9_remedy_137 ?_
            exact v_ri K E dX9_remedy_138 ⟨hs2, Or.inr (Or.inr ⟨by omega, hp, Or.inl ⟨b, c, w, hb1, hb9, by omega, by omega, ⟨by omega, by omega, by rcases h111 with ⟨-, q⟩ | ⟨q, -⟩; exact q; exact absurd q (by omega)⟩, G, rfl⟩⟩)⟩
set_option maxRecDepth 100000 in
set_option maxHeartbeats 4000000 in
theorem l_X9_remedy_c {X : VX} {Q : Nat → Nat} {MI ML : ZM} (K : VK X cX9_remedy RX9 9 (some .int) 8 185 0 0) (hM : mOk MI) (hp : 0 < MI 90 4) (u v : Int) (hu : 1 ≤ u) (huv : u ≤ v) (hv : v ≤ 20) (b : Nat) (hb1 : 1 ≤ b) (hb9 : b ≤ 9) (E : VE X 0 0 110 Q (zq Q (zI fun r M L => scT MI M ∧ ((¬ (1 ≤ v ∧ v ≤ 20 ∧ 1 ≤ u ∧ u ≤ v) ∧ r = -2) ∨ ((1 ≤ v ∧ v ≤ 20 ∧ 1 ≤ u ∧ u ≤ v) ∧ MI 90 4 = 0 ∧ r = -3) ∨ ((1 ≤ v ∧ v ≤ 20 ∧ 1 ≤ u ∧ u ≤ v) ∧ 0 < MI 90 4 ∧ rmF (rmP MI u v) (pvM MI) (MI 90 0).toNat r))))) (kk : ∀ (M L : ZM) (c : Nat), (c : Int) = MI 90 0 → scT MI M → nob (rmP MI u v) (MI 90 0).toNat b c 0 → V X (0, 0) 110 Q z_rf M L 151 [(4, .int (iI (c : Int))), (3, .int (iI (b : Int))), (0, .ref (Q 90)), (1, .int (iI u)), (2, .int (iI v))] []) : ∀ (n c : Nat) (M L : ZM), scT MI M → nob (rmP MI u v) (MI 90 0).toNat b c 0 → (c : Int) ≤ MI 90 0 → MI 90 0 < c + n → V X (0, 0) 110 Q z_rf M L 43 [(4, .int (iI (c : Int))), (3, .int (iI (b : Int))), (0, .ref (Q 90)), (1, .int (iI u)), (2, .int (iI v))] [] := by
  have u0 := hM.1
  intro n
  induction n with
  | zero => intro c M L hs G hc hn; exact absurd hn (by omega)
  | succ n ih =>
    intro c M L hs G hc hn
    refine v_iload K 0 dX9_remedy_43 rfl ?_
    refine v_aload_n K 2 dX9_remedy_45 rfl rfl ?_
    refine v_geti K ff_X9_72 (by decide) rfl rfl dX9_remedy_46 ?_
    refine v_eqi (MI 90 0) (hs 90 0 (by omega) (by decide)) ?_
    refine v_icmp_ge K 151 ⟨by omega, by omega⟩ ⟨by omega, by omega⟩ dX9_remedy_49 (by decide) (fun h49 => ?_) (fun h49 => ?_)
    · exact kk M L c (by omega) hs G
    · refine v_iconst K dX9_remedy_52 ?_
      refine v_istore K (fun q9 => [(5, .int (iI q9)), (4, .int (iI (c : Int))), (3, .int (iI (b : Int))), (0, .ref (Q 90)), (1, .int (iI u)), (2, .int (iI v))]) dX9_remedy_53 (by decide) (fun _ => rfl) (fun w0 hw0 => ?_)
      subst hw0
      refine l_X9_remedy_w (ML := ML) K hM hp u v hu huv hv b c hb1 hb9 (by omega) E (fun M L hs G => ?_) 3 0 M L hs G (by omega) (by omega)
      refine v_iinc K 1 (fun q9 => [(4, .int (iI q9)), (5, .int (iI (2 : Int))), (3, .int (iI (b : Int))), (0, .ref (Q 90)), (1, .int (iI u)), (2, .int (iI v))]) dX9_remedy_145 rfl (by decide) (fun _ => rfl) (fun c2 hc2 => ?_)
      refine v_goto K 43 dX9_remedy_148 (by decide) ?_
      obtain rfl : c2 = ((c + 1 : Nat) : Int) := by omega
      refine v_sub K [0, 2, 3, 4, 5] rfl ?_
      exact ih (c + 1) _ _ hs (nob_c G) (by omega) (by omega)
set_option maxRecDepth 100000 in
set_option maxHeartbeats 4000000 in
theorem l_X9_remedy_b {X : VX} {Q : Nat → Nat} {MI ML : ZM} (K : VK X cX9_remedy RX9 9 (some .int) 8 185 0 0) (hM : mOk MI) (hp : 0 < MI 90 4) (u v : Int) (hu : 1 ≤ u) (huv : u ≤ v) (hv : v ≤ 20) (E : VE X 0 0 110 Q (zq Q (zI fun r M L => scT MI M ∧ ((¬ (1 ≤ v ∧ v ≤ 20 ∧ 1 ≤ u ∧ u ≤ v) ∧ r = -2) ∨ ((1 ≤ v ∧ v ≤ 20 ∧ 1 ≤ u ∧ u ≤ v) ∧ MI 90 4 = 0 ∧ r = -3) ∨ ((1 ≤ v ∧ v ≤ 20 ∧ 1 ≤ u ∧ u ≤ v) ∧ 0 < MI 90 4 ∧ rmF (rmP MI u v) (pvM MI) (MI 90 0).toNat r))))) : ∀ (n b : Nat) (M L : ZM), scT MI M → nob (rmP MI u v) (MI 90 0).toNat b 0 0 → 1 ≤ b → b ≤ 10 → 10 < b + n → V X (0, 0) 110 Q z_rf M L 34 [(3, .int (iI (b : Int))), (0, .ref (Q 90)), (1, .int (iI u)), (2, .int (iI v))] [] := by
  have u0 := hM.1
  intro n
  induction n with
  | zero => intro b M L hs G hb1 hb hn; exact absurd hn (by omega)
  | succ n ih =>
    intro b M L hs G hb1 hb hn
    refine v_iload_n K 0 dX9_remedy_34 rfl rfl ?_
    refine v_bipush K dX9_remedy_35 (by decide) ?_
    refine v_icmp_gt K 157 ⟨by omega, by omega⟩ ⟨by omega, by omega⟩ dX9_remedy_37 (by decide) (fun h37 => ?_) (fun h37 => ?_)
    · obtain rfl : b = 10 := (by omega)
      refine v_iconst K dX9_remedy_157 ?_
      exact v_ri K E dX9_remedy_158 ⟨hs, Or.inr (Or.inr ⟨by omega, hp, Or.inr ⟨G, rfl⟩⟩)⟩
    · refine v_iconst K dX9_remedy_40 ?_
      refine v_istore K (fun q9 => [(4, .int (iI q9)), (3, .int (iI (b : Int))), (0, .ref (Q 90)), (1, .int (iI u)), (2, .int (iI v))]) dX9_remedy_41 (by decide) (fun _ => rfl) (fun c0 hc0 => ?_)
      subst hc0
      refine l_X9_remedy_c (ML := ML) K hM hp u v hu huv hv b hb1 (by omega) E (fun M L c hc hs G => ?_) 13 0 M L hs G (by omega) (by omega)
      refine v_iinc K 1 (fun q9 => [(3, .int (iI q9)), (4, .int (iI (c : Int))), (0, .ref (Q 90)), (1, .int (iI u)), (2, .int (iI v))]) dX9_remedy_151 rfl (by decide) (fun _ => rfl) (fun b2 hb2 => ?_)
      refine v_goto K 34 dX9_remedy_154 (by decide) ?_
      obtain rfl : b2 = ((b + 1 : Nat) : Int) := by omega
      refine v_sub K [0, 2, 3, 4] rfl ?_
      exact ih (b + 1) _ _ hs (nob_b (by rw [show (MI 90 0).toNat = c by omega] at G ⊢; exact G)) (by omega) (by omega) (by omega)
set_option maxRecDepth 100000 in
set_option maxHeartbeats 4000000 in
theorem c_X9_remedy {l : Launch} {D : va_G} {Z : ZC} {Q : Nat → Nat} {MI ML : ZM} (hM : mOk MI) (u v : Int) (hu9 : rg u) (hv9 : rg v) : C_X9_remedy l D Z Q [.ref (Q 90), .int (iI u), .int (iI v)] MI ML (zI fun r M L => scT MI M ∧ ((¬ (1 ≤ v ∧ v ≤ 20 ∧ 1 ≤ u ∧ u ≤ v) ∧ r = -2) ∨ ((1 ≤ v ∧ v ≤ 20 ∧ 1 ≤ u ∧ u ≤ v) ∧ MI 90 4 = 0 ∧ r = -3) ∨ ((1 ≤ v ∧ v ≤ 20 ∧ 1 ≤ u ∧ u ≤ v) ∧ 0 < MI 90 4 ∧ rmF (rmP MI u v) (pvM MI) (MI 90 0).toNat r))) := by
  refine CM.of (by decide +kernel) (Nat.le_of_ble_eq_true rfl) ?_
  intro X K E _ _ _ _
  show V X (0, 0) 110 Q z_rf MI ML 0 [(0, .ref (Q 90)), (1, .int (iI u)), (2, .int (iI v))] []
  have u4 := hM.2.1
  refine v_iload_n K 2 dX9_remedy_0 rfl rfl ?_
  refine v_iconst K dX9_remedy_1 ?_
  refine v_bipush K dX9_remedy_2 (by decide) ?_
  refine v_cSi K (c_X9_in _ _ _ hv9 ⟨by omega, by omega⟩ ⟨by omega, by omega⟩) rfl fc_X9_75 wt_X9_in rfl (by decide) (Nat.le_of_ble_eq_true rfl) dX9_remedy_4 (fun r4 M4 L4 h4 => ?_)
  obtain ⟨hm4, hl4, hr4⟩ := h4
  subst M4 L4
  refine v_if_eq K 19 ⟨by omega, by omega⟩ dX9_remedy_7 (by decide) (fun h7 => ?_) (fun h7 => ?_)
  · refine v_bipush K dX9_remedy_19 (by decide) ?_
    exact v_ri K E dX9_remedy_21 ⟨scT.rf MI, Or.inl ⟨by omega, rfl⟩⟩
  · refine v_iload_n K 1 dX9_remedy_10 rfl rfl ?_
    refine v_iconst K dX9_remedy_11 ?_
    refine v_iload_n K 2 dX9_remedy_12 rfl rfl ?_
    refine v_cSi K (c_X9_in _ _ _ hu9 ⟨by omega, by omega⟩ hv9) rfl fc_X9_75 wt_X9_in rfl (by decide) (Nat.le_of_ble_eq_true rfl) dX9_remedy_13 (fun r13 M13 L13 h13 => ?_)
    obtain ⟨hm13, hl13, hr13⟩ := h13
    subst M13 L13
    refine v_if_ne K 22 ⟨by omega, by omega⟩ dX9_remedy_16 (by decide) (fun h16 => ?_) (fun h16 => ?_)
    · refine v_aload_n K 0 dX9_remedy_22 rfl rfl ?_
      refine v_geti K ff_X9_79 (by decide) rfl rfl dX9_remedy_23 ?_
      refine v_if_ne K 32 ⟨by omega, by omega⟩ dX9_remedy_26 (by decide) (fun h26 => ?_) (fun h26 => ?_)
      · refine v_iconst K dX9_remedy_32 ?_
        refine v_istore_n K (fun q9 => [(3, .int (iI q9)), (0, .ref (Q 90)), (1, .int (iI u)), (2, .int (iI v))]) dX9_remedy_33 rfl (by decide) (fun _ => rfl) (fun b0 hb0 => ?_)
        subst hb0
        exact l_X9_remedy_b (ML := ML) K hM (by omega) u v (by omega) (by omega) (by omega) E 10 1 MI ML (scT.rf MI) (fun b c w h1 _ _ _ q => by unfold bef at q; omega) (by omega) (by omega) (by omega)
      · refine v_bipush K dX9_remedy_29 (by decide) ?_
        exact v_ri K E dX9_remedy_31 ⟨scT.rf MI, Or.inr (Or.inl ⟨by omega, by omega, rfl⟩)⟩
    · refine v_bipush K dX9_remedy_19 (by decide) ?_
      exact v_ri K E dX9_remedy_21 ⟨scT.rf MI, Or.inl ⟨by omega, rfl⟩⟩
